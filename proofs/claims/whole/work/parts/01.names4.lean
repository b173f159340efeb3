theorem dX7_wound_37 : decode cX7_wound 37 = .ok (.invokevirtual 182, 3) := by decide +kernel
theorem dX7_wound_40 : decode cX7_wound 40 = .ok (.ifCond .eq 9, 3) := by decide +kernel
theorem dX7_wound_43 : decode cX7_wound 43 = .ok (.iload_n 1, 1) := by decide +kernel
theorem dX7_wound_44 : decode cX7_wound 44 = .ok (.iconst 1, 1) := by decide +kernel
theorem dX7_wound_45 : decode cX7_wound 45 = .ok (.iload_n 2, 1) := by decide +kernel
theorem dX7_wound_46 : decode cX7_wound 46 = .ok (.ishl, 1) := by decide +kernel
theorem dX7_wound_47 : decode cX7_wound 47 = .ok (.ior, 1) := by decide +kernel
theorem dX7_wound_48 : decode cX7_wound 48 = .ok (.istore_n 1, 1) := by decide +kernel
theorem dX7_wound_49 : decode cX7_wound 49 = .ok (.iinc 2 1, 3) := by decide +kernel
theorem dX7_wound_52 : decode cX7_wound 52 = .ok (.goto (-48), 3) := by decide +kernel
theorem dX7_wound_55 : decode cX7_wound 55 = .ok (.iload_n 1, 1) := by decide +kernel
theorem dX7_wound_56 : decode cX7_wound 56 = .ok (.ireturn, 1) := by decide +kernel
theorem dX7_ordered_0 : decode cX7_ordered 0 = .ok (.iload_n 1, 1) := by decide +kernel
theorem dX7_ordered_1 : decode cX7_ordered 1 = .ok (.invokestatic 100, 3) := by decide +kernel
theorem dX7_ordered_4 : decode cX7_ordered 4 = .ok (.ifCond .ne 6, 3) := by decide +kernel
theorem dX7_ordered_7 : decode cX7_ordered 7 = .ok (.bipush (-2), 2) := by decide +kernel
theorem dX7_ordered_9 : decode cX7_ordered 9 = .ok (.ireturn, 1) := by decide +kernel
theorem dX7_ordered_10 : decode cX7_ordered 10 = .ok (.iload_n 2, 1) := by decide +kernel
theorem dX7_ordered_11 : decode cX7_ordered 11 = .ok (.ifCond .lt 8, 3) := by decide +kernel
theorem dX7_ordered_14 : decode cX7_ordered 14 = .ok (.iload_n 2, 1) := by decide +kernel
theorem dX7_ordered_15 : decode cX7_ordered 15 = .ok (.iconst 1, 1) := by decide +kernel
theorem dX7_ordered_16 : decode cX7_ordered 16 = .ok (.if_icmp .le 6, 3) := by decide +kernel
theorem dX7_ordered_19 : decode cX7_ordered 19 = .ok (.bipush (-3), 2) := by decide +kernel
theorem dX7_ordered_21 : decode cX7_ordered 21 = .ok (.ireturn, 1) := by decide +kernel
theorem dX7_ordered_22 : decode cX7_ordered 22 = .ok (.aload_n 0, 1) := by decide +kernel
theorem dX7_ordered_23 : decode cX7_ordered 23 = .ok (.getfield 35, 3) := by decide +kernel
theorem dX7_ordered_26 : decode cX7_ordered 26 = .ok (.getfield 103, 3) := by decide +kernel
theorem dX7_ordered_29 : decode cX7_ordered 29 = .ok (.iload_n 1, 1) := by decide +kernel
theorem dX7_ordered_30 : decode cX7_ordered 30 = .ok (.aaload, 1) := by decide +kernel
theorem dX7_ordered_31 : decode cX7_ordered 31 = .ok (.getfield 107, 3) := by decide +kernel
theorem dX7_ordered_34 : decode cX7_ordered 34 = .ok (.ifCond .ne 5, 3) := by decide +kernel
theorem dX7_ordered_37 : decode cX7_ordered 37 = .ok (.iconst (-1), 1) := by decide +kernel
theorem dX7_ordered_38 : decode cX7_ordered 38 = .ok (.ireturn, 1) := by decide +kernel
theorem dX7_ordered_39 : decode cX7_ordered 39 = .ok (.iconst 0, 1) := by decide +kernel
theorem dX7_ordered_40 : decode cX7_ordered 40 = .ok (.istore_n 3, 1) := by decide +kernel
theorem dX7_ordered_41 : decode cX7_ordered 41 = .ok (.iconst (-1), 1) := by decide +kernel
theorem dX7_ordered_42 : decode cX7_ordered 42 = .ok (.istore 4, 2) := by decide +kernel
theorem dX7_ordered_44 : decode cX7_ordered 44 = .ok (.iconst 0, 1) := by decide +kernel
theorem dX7_ordered_45 : decode cX7_ordered 45 = .ok (.istore 5, 2) := by decide +kernel
theorem dX7_ordered_47 : decode cX7_ordered 47 = .ok (.iload 5, 2) := by decide +kernel
theorem dX7_ordered_49 : decode cX7_ordered 49 = .ok (.iconst 5, 1) := by decide +kernel
theorem dX7_ordered_50 : decode cX7_ordered 50 = .ok (.if_icmp .ge 58, 3) := by decide +kernel
theorem dX7_ordered_53 : decode cX7_ordered 53 = .ok (.iconst 1, 1) := by decide +kernel
theorem dX7_ordered_54 : decode cX7_ordered 54 = .ok (.istore 6, 2) := by decide +kernel
theorem dX7_ordered_56 : decode cX7_ordered 56 = .ok (.iload 6, 2) := by decide +kernel
theorem dX7_ordered_58 : decode cX7_ordered 58 = .ok (.bipush 9, 2) := by decide +kernel
theorem dX7_ordered_60 : decode cX7_ordered 60 = .ok (.if_icmp .gt 42, 3) := by decide +kernel
theorem dX7_ordered_63 : decode cX7_ordered 63 = .ok (.aload_n 0, 1) := by decide +kernel
theorem dX7_ordered_64 : decode cX7_ordered 64 = .ok (.iload_n 1, 1) := by decide +kernel
theorem dX7_ordered_65 : decode cX7_ordered 65 = .ok (.iload 5, 2) := by decide +kernel
theorem dX7_ordered_67 : decode cX7_ordered 67 = .ok (.iload 6, 2) := by decide +kernel
theorem dX7_ordered_69 : decode cX7_ordered 69 = .ok (.invokevirtual 185, 3) := by decide +kernel
theorem dX7_ordered_72 : decode cX7_ordered 72 = .ok (.ifCond .eq 24, 3) := by decide +kernel
theorem dX7_ordered_75 : decode cX7_ordered 75 = .ok (.iload_n 3, 1) := by decide +kernel
theorem dX7_ordered_76 : decode cX7_ordered 76 = .ok (.ifCond .ne 13, 3) := by decide +kernel
theorem dX7_ordered_79 : decode cX7_ordered 79 = .ok (.iload 5, 2) := by decide +kernel
theorem dX7_ordered_81 : decode cX7_ordered 81 = .ok (.iload 6, 2) := by decide +kernel
theorem dX7_ordered_83 : decode cX7_ordered 83 = .ok (.invokestatic 176, 3) := by decide +kernel
theorem dX7_ordered_86 : decode cX7_ordered 86 = .ok (.goto 5, 3) := by decide +kernel
theorem dX7_ordered_89 : decode cX7_ordered 89 = .ok (.iload 4, 2) := by decide +kernel
theorem dX7_ordered_91 : decode cX7_ordered 91 = .ok (.istore 4, 2) := by decide +kernel
theorem dX7_ordered_93 : decode cX7_ordered 93 = .ok (.iinc 3 1, 3) := by decide +kernel
theorem dX7_ordered_96 : decode cX7_ordered 96 = .ok (.iinc 6 1, 3) := by decide +kernel
theorem dX7_ordered_99 : decode cX7_ordered 99 = .ok (.goto (-43), 3) := by decide +kernel
theorem dX7_ordered_102 : decode cX7_ordered 102 = .ok (.iinc 5 1, 3) := by decide +kernel
theorem dX7_ordered_105 : decode cX7_ordered 105 = .ok (.goto (-58), 3) := by decide +kernel
theorem dX7_ordered_108 : decode cX7_ordered 108 = .ok (.iload_n 2, 1) := by decide +kernel
theorem dX7_ordered_109 : decode cX7_ordered 109 = .ok (.ifCond .ne 7, 3) := by decide +kernel
theorem dX7_ordered_112 : decode cX7_ordered 112 = .ok (.iload_n 3, 1) := by decide +kernel
theorem dX7_ordered_113 : decode cX7_ordered 113 = .ok (.goto 5, 3) := by decide +kernel
theorem dX7_ordered_116 : decode cX7_ordered 116 = .ok (.iload 4, 2) := by decide +kernel
theorem dX7_ordered_118 : decode cX7_ordered 118 = .ok (.ireturn, 1) := by decide +kernel
theorem dX7_inspected_0 : decode cX7_inspected 0 = .ok (.iload_n 1, 1) := by decide +kernel
theorem dX7_inspected_1 : decode cX7_inspected 1 = .ok (.ifCond .lt 19, 3) := by decide +kernel
theorem dX7_inspected_4 : decode cX7_inspected 4 = .ok (.iload_n 1, 1) := by decide +kernel
theorem dX7_inspected_5 : decode cX7_inspected 5 = .ok (.bipush 60, 2) := by decide +kernel
theorem dX7_inspected_7 : decode cX7_inspected 7 = .ok (.if_icmp .gt 13, 3) := by decide +kernel
theorem dX7_inspected_10 : decode cX7_inspected 10 = .ok (.iload_n 2, 1) := by decide +kernel
theorem dX7_inspected_11 : decode cX7_inspected 11 = .ok (.ifCond .lt 9, 3) := by decide +kernel
theorem dX7_inspected_14 : decode cX7_inspected 14 = .ok (.iload_n 2, 1) := by decide +kernel
theorem dX7_inspected_15 : decode cX7_inspected 15 = .ok (.bipush 10, 2) := by decide +kernel
theorem dX7_inspected_17 : decode cX7_inspected 17 = .ok (.if_icmp .le 6, 3) := by decide +kernel
theorem dX7_inspected_20 : decode cX7_inspected 20 = .ok (.bipush (-3), 2) := by decide +kernel
theorem dX7_inspected_22 : decode cX7_inspected 22 = .ok (.ireturn, 1) := by decide +kernel
theorem dX7_inspected_23 : decode cX7_inspected 23 = .ok (.aload_n 0, 1) := by decide +kernel
theorem dX7_inspected_24 : decode cX7_inspected 24 = .ok (.getfield 39, 3) := by decide +kernel
theorem dX7_inspected_27 : decode cX7_inspected 27 = .ok (.aload_n 0, 1) := by decide +kernel
theorem dX7_inspected_28 : decode cX7_inspected 28 = .ok (.getfield 35, 3) := by decide +kernel
theorem dX7_inspected_31 : decode cX7_inspected 31 = .ok (.invokevirtual 164, 3) := by decide +kernel
theorem dX7_inspected_34 : decode cX7_inspected 34 = .ok (.ldc2_w 189, 3) := by decide +kernel
theorem dX7_inspected_37 : decode cX7_inspected 37 = .ok (.lstore_n 3, 1) := by decide +kernel
theorem dX7_inspected_38 : decode cX7_inspected 38 = .ok (.iconst 0, 1) := by decide +kernel
theorem dX7_inspected_39 : decode cX7_inspected 39 = .ok (.istore 5, 2) := by decide +kernel
theorem dX7_inspected_41 : decode cX7_inspected 41 = .ok (.iload 5, 2) := by decide +kernel
theorem dX7_inspected_43 : decode cX7_inspected 43 = .ok (.iload_n 1, 1) := by decide +kernel
theorem dX7_inspected_44 : decode cX7_inspected 44 = .ok (.if_icmp .ge 32, 3) := by decide +kernel
theorem dX7_inspected_47 : decode cX7_inspected 47 = .ok (.aload_n 0, 1) := by decide +kernel
theorem dX7_inspected_48 : decode cX7_inspected 48 = .ok (.getfield 39, 3) := by decide +kernel
theorem dX7_inspected_51 : decode cX7_inspected 51 = .ok (.invokevirtual 169, 3) := by decide +kernel
theorem dX7_inspected_54 : decode cX7_inspected 54 = .ok (.iconst (-1), 1) := by decide +kernel
theorem dX7_inspected_55 : decode cX7_inspected 55 = .ok (.if_icmp .eq 15, 3) := by decide +kernel
theorem dX7_inspected_58 : decode cX7_inspected 58 = .ok (.lload_n 3, 1) := by decide +kernel
theorem dX7_inspected_59 : decode cX7_inspected 59 = .ok (.bipush 10, 2) := by decide +kernel
theorem dX7_inspected_61 : decode cX7_inspected 61 = .ok (.iload_n 2, 1) := by decide +kernel
theorem dX7_inspected_62 : decode cX7_inspected 62 = .ok (.isub, 1) := by decide +kernel
theorem dX7_inspected_63 : decode cX7_inspected 63 = .ok (.i2l, 1) := by decide +kernel
theorem dX7_inspected_64 : decode cX7_inspected 64 = .ok (.lmul, 1) := by decide +kernel
theorem dX7_inspected_65 : decode cX7_inspected 65 = .ok (.ldc2_w 191, 3) := by decide +kernel
theorem dX7_inspected_68 : decode cX7_inspected 68 = .ok (.ldiv, 1) := by decide +kernel
theorem dX7_inspected_69 : decode cX7_inspected 69 = .ok (.lstore_n 3, 1) := by decide +kernel
theorem dX7_inspected_70 : decode cX7_inspected 70 = .ok (.iinc 5 1, 3) := by decide +kernel
theorem dX7_inspected_73 : decode cX7_inspected 73 = .ok (.goto (-32), 3) := by decide +kernel
theorem dX7_inspected_76 : decode cX7_inspected 76 = .ok (.lload_n 3, 1) := by decide +kernel
theorem dX7_inspected_77 : decode cX7_inspected 77 = .ok (.l2i, 1) := by decide +kernel
theorem dX7_inspected_78 : decode cX7_inspected 78 = .ok (.ireturn, 1) := by decide +kernel
theorem dX7_count_0 : decode cX7_count 0 = .ok (.iload_n 1, 1) := by decide +kernel
theorem dX7_count_1 : decode cX7_count 1 = .ok (.tableswitch 200 0 16 #[83, 91, 99, 107, 115, 123, 131, 139, 147, 155, 163, 163, 163, 163, 176, 184, 192], 83) := by decide +kernel
theorem dX7_count_84 : decode cX7_count 84 = .ok (.aload_n 0, 1) := by decide +kernel
theorem dX7_count_85 : decode cX7_count 85 = .ok (.getfield 35, 3) := by decide +kernel
theorem dX7_count_88 : decode cX7_count 88 = .ok (.getfield 193, 3) := by decide +kernel
theorem dX7_count_91 : decode cX7_count 91 = .ok (.ireturn, 1) := by decide +kernel
theorem dX7_count_92 : decode cX7_count 92 = .ok (.aload_n 0, 1) := by decide +kernel
theorem dX7_count_93 : decode cX7_count 93 = .ok (.getfield 35, 3) := by decide +kernel
theorem dX7_count_96 : decode cX7_count 96 = .ok (.getfield 196, 3) := by decide +kernel
theorem dX7_count_99 : decode cX7_count 99 = .ok (.ireturn, 1) := by decide +kernel
theorem dX7_count_100 : decode cX7_count 100 = .ok (.aload_n 0, 1) := by decide +kernel
theorem dX7_count_101 : decode cX7_count 101 = .ok (.getfield 35, 3) := by decide +kernel
theorem dX7_count_104 : decode cX7_count 104 = .ok (.getfield 199, 3) := by decide +kernel
theorem dX7_count_107 : decode cX7_count 107 = .ok (.ireturn, 1) := by decide +kernel
theorem dX7_count_108 : decode cX7_count 108 = .ok (.aload_n 0, 1) := by decide +kernel
theorem dX7_count_109 : decode cX7_count 109 = .ok (.getfield 35, 3) := by decide +kernel
theorem dX7_count_112 : decode cX7_count 112 = .ok (.getfield 133, 3) := by decide +kernel
theorem dX7_count_115 : decode cX7_count 115 = .ok (.ireturn, 1) := by decide +kernel
theorem dX7_count_116 : decode cX7_count 116 = .ok (.aload_n 0, 1) := by decide +kernel
theorem dX7_count_117 : decode cX7_count 117 = .ok (.getfield 35, 3) := by decide +kernel
theorem dX7_count_120 : decode cX7_count 120 = .ok (.getfield 202, 3) := by decide +kernel
theorem dX7_count_123 : decode cX7_count 123 = .ok (.ireturn, 1) := by decide +kernel
theorem dX7_count_124 : decode cX7_count 124 = .ok (.aload_n 0, 1) := by decide +kernel
theorem dX7_count_125 : decode cX7_count 125 = .ok (.getfield 35, 3) := by decide +kernel
theorem dX7_count_128 : decode cX7_count 128 = .ok (.invokevirtual 144, 3) := by decide +kernel
theorem dX7_count_131 : decode cX7_count 131 = .ok (.ireturn, 1) := by decide +kernel
theorem dX7_count_132 : decode cX7_count 132 = .ok (.aload_n 0, 1) := by decide +kernel
theorem dX7_count_133 : decode cX7_count 133 = .ok (.getfield 35, 3) := by decide +kernel
theorem dX7_count_136 : decode cX7_count 136 = .ok (.getfield 166, 3) := by decide +kernel
theorem dX7_count_139 : decode cX7_count 139 = .ok (.ireturn, 1) := by decide +kernel
theorem dX7_count_140 : decode cX7_count 140 = .ok (.aload_n 0, 1) := by decide +kernel
theorem dX7_count_141 : decode cX7_count 141 = .ok (.getfield 35, 3) := by decide +kernel
theorem dX7_count_144 : decode cX7_count 144 = .ok (.getfield 205, 3) := by decide +kernel
theorem dX7_count_147 : decode cX7_count 147 = .ok (.ireturn, 1) := by decide +kernel
theorem dX7_count_148 : decode cX7_count 148 = .ok (.aload_n 0, 1) := by decide +kernel
theorem dX7_count_149 : decode cX7_count 149 = .ok (.getfield 35, 3) := by decide +kernel
theorem dX7_count_152 : decode cX7_count 152 = .ok (.getfield 208, 3) := by decide +kernel
theorem dX7_count_155 : decode cX7_count 155 = .ok (.ireturn, 1) := by decide +kernel
theorem dX7_count_156 : decode cX7_count 156 = .ok (.aload_n 0, 1) := by decide +kernel
theorem dX7_count_157 : decode cX7_count 157 = .ok (.getfield 35, 3) := by decide +kernel
theorem dX7_count_160 : decode cX7_count 160 = .ok (.invokevirtual 211, 3) := by decide +kernel
theorem dX7_count_163 : decode cX7_count 163 = .ok (.ireturn, 1) := by decide +kernel
theorem dX7_count_164 : decode cX7_count 164 = .ok (.aload_n 0, 1) := by decide +kernel
theorem dX7_count_165 : decode cX7_count 165 = .ok (.getfield 35, 3) := by decide +kernel
theorem dX7_count_168 : decode cX7_count 168 = .ok (.getfield 214, 3) := by decide +kernel
theorem dX7_count_171 : decode cX7_count 171 = .ok (.iload_n 1, 1) := by decide +kernel
theorem dX7_count_172 : decode cX7_count 172 = .ok (.bipush 10, 2) := by decide +kernel
theorem dX7_count_174 : decode cX7_count 174 = .ok (.isub, 1) := by decide +kernel
theorem dX7_count_175 : decode cX7_count 175 = .ok (.iaload, 1) := by decide +kernel
theorem dX7_count_176 : decode cX7_count 176 = .ok (.ireturn, 1) := by decide +kernel
theorem dX7_count_177 : decode cX7_count 177 = .ok (.aload_n 0, 1) := by decide +kernel
theorem dX7_count_178 : decode cX7_count 178 = .ok (.getfield 60, 3) := by decide +kernel
theorem dX7_count_181 : decode cX7_count 181 = .ok (.getfield 86, 3) := by decide +kernel
theorem dX7_count_184 : decode cX7_count 184 = .ok (.ireturn, 1) := by decide +kernel
theorem dX7_count_185 : decode cX7_count 185 = .ok (.aload_n 0, 1) := by decide +kernel
theorem dX7_count_186 : decode cX7_count 186 = .ok (.getfield 45, 3) := by decide +kernel
theorem dX7_count_189 : decode cX7_count 189 = .ok (.getfield 89, 3) := by decide +kernel
theorem dX7_count_192 : decode cX7_count 192 = .ok (.ireturn, 1) := by decide +kernel
theorem dX7_count_193 : decode cX7_count 193 = .ok (.aload_n 0, 1) := by decide +kernel
theorem dX7_count_194 : decode cX7_count 194 = .ok (.getfield 10, 3) := by decide +kernel
theorem dX7_count_197 : decode cX7_count 197 = .ok (.getfield 72, 3) := by decide +kernel
theorem dX7_count_200 : decode cX7_count 200 = .ok (.ireturn, 1) := by decide +kernel
theorem dX7_count_201 : decode cX7_count 201 = .ok (.bipush (-3), 2) := by decide +kernel
theorem dX7_count_203 : decode cX7_count 203 = .ok (.ireturn, 1) := by decide +kernel
theorem dX7_isArmy_0 : decode cX7_isArmy 0 = .ok (.iload_n 0, 1) := by decide +kernel
theorem dX7_isArmy_1 : decode cX7_isArmy 1 = .ok (.ifCond .lt 12, 3) := by decide +kernel
theorem dX7_isArmy_4 : decode cX7_isArmy 4 = .ok (.iload_n 0, 1) := by decide +kernel
theorem dX7_isArmy_5 : decode cX7_isArmy 5 = .ok (.iconst 2, 1) := by decide +kernel
theorem dX7_isArmy_6 : decode cX7_isArmy 6 = .ok (.if_icmp .ge 7, 3) := by decide +kernel
theorem dX7_isArmy_9 : decode cX7_isArmy 9 = .ok (.iconst 1, 1) := by decide +kernel
theorem dX7_isArmy_10 : decode cX7_isArmy 10 = .ok (.goto 4, 3) := by decide +kernel
theorem dX7_isArmy_13 : decode cX7_isArmy 13 = .ok (.iconst 0, 1) := by decide +kernel
theorem dX7_isArmy_14 : decode cX7_isArmy 14 = .ok (.ireturn, 1) := by decide +kernel
theorem dX7_isFigure_0 : decode cX7_isFigure 0 = .ok (.iload_n 0, 1) := by decide +kernel
theorem dX7_isFigure_1 : decode cX7_isFigure 1 = .ok (.ifCond .lt 23, 3) := by decide +kernel
theorem dX7_isFigure_4 : decode cX7_isFigure 4 = .ok (.iload_n 0, 1) := by decide +kernel
theorem dX7_isFigure_5 : decode cX7_isFigure 5 = .ok (.iconst 5, 1) := by decide +kernel
theorem dX7_isFigure_6 : decode cX7_isFigure 6 = .ok (.if_icmp .ge 18, 3) := by decide +kernel
theorem dX7_isFigure_9 : decode cX7_isFigure 9 = .ok (.iload_n 1, 1) := by decide +kernel
theorem dX7_isFigure_10 : decode cX7_isFigure 10 = .ok (.iconst 1, 1) := by decide +kernel
theorem dX7_isFigure_11 : decode cX7_isFigure 11 = .ok (.if_icmp .lt 13, 3) := by decide +kernel
theorem dX7_isFigure_14 : decode cX7_isFigure 14 = .ok (.iload_n 1, 1) := by decide +kernel
theorem dX7_isFigure_15 : decode cX7_isFigure 15 = .ok (.bipush 9, 2) := by decide +kernel
theorem dX7_isFigure_17 : decode cX7_isFigure 17 = .ok (.if_icmp .gt 7, 3) := by decide +kernel
theorem dX7_isFigure_20 : decode cX7_isFigure 20 = .ok (.iconst 1, 1) := by decide +kernel
theorem dX7_isFigure_21 : decode cX7_isFigure 21 = .ok (.goto 4, 3) := by decide +kernel
theorem dX7_isFigure_24 : decode cX7_isFigure 24 = .ok (.iconst 0, 1) := by decide +kernel
theorem dX7_isFigure_25 : decode cX7_isFigure 25 = .ok (.ireturn, 1) := by decide +kernel
theorem dX7_codeOf_0 : decode cX7_codeOf 0 = .ok (.bipush 10, 2) := by decide +kernel
theorem dX7_codeOf_2 : decode cX7_codeOf 2 = .ok (.iload_n 0, 1) := by decide +kernel
theorem dX7_codeOf_3 : decode cX7_codeOf 3 = .ok (.imul, 1) := by decide +kernel
theorem dX7_codeOf_4 : decode cX7_codeOf 4 = .ok (.iload_n 1, 1) := by decide +kernel
theorem dX7_codeOf_5 : decode cX7_codeOf 5 = .ok (.iadd, 1) := by decide +kernel
theorem dX7_codeOf_6 : decode cX7_codeOf 6 = .ok (.ireturn, 1) := by decide +kernel
theorem dX7_isUnder_0 : decode cX7_isUnder 0 = .ok (.iload_n 0, 1) := by decide +kernel
theorem dX7_isUnder_1 : decode cX7_isUnder 1 = .ok (.istore_n 2, 1) := by decide +kernel
theorem dX7_isUnder_2 : decode cX7_isUnder 2 = .ok (.iconst 0, 1) := by decide +kernel
theorem dX7_isUnder_3 : decode cX7_isUnder 3 = .ok (.istore_n 3, 1) := by decide +kernel
theorem dX7_isUnder_4 : decode cX7_isUnder 4 = .ok (.iload_n 3, 1) := by decide +kernel
theorem dX7_isUnder_5 : decode cX7_isUnder 5 = .ok (.getstatic 123, 3) := by decide +kernel
theorem dX7_isUnder_8 : decode cX7_isUnder 8 = .ok (.arraylength, 1) := by decide +kernel
theorem dX7_isUnder_9 : decode cX7_isUnder 9 = .ok (.if_icmp .ge 34, 3) := by decide +kernel
theorem dX7_isUnder_12 : decode cX7_isUnder 12 = .ok (.iload_n 2, 1) := by decide +kernel
theorem dX7_isUnder_13 : decode cX7_isUnder 13 = .ok (.ifCond .lt 30, 3) := by decide +kernel
theorem dX7_isUnder_16 : decode cX7_isUnder 16 = .ok (.iload_n 2, 1) := by decide +kernel
theorem dX7_isUnder_17 : decode cX7_isUnder 17 = .ok (.getstatic 123, 3) := by decide +kernel
theorem dX7_isUnder_20 : decode cX7_isUnder 20 = .ok (.arraylength, 1) := by decide +kernel
theorem dX7_isUnder_21 : decode cX7_isUnder 21 = .ok (.if_icmp .ge 22, 3) := by decide +kernel
theorem dX7_isUnder_24 : decode cX7_isUnder 24 = .ok (.iload_n 2, 1) := by decide +kernel
theorem dX7_isUnder_25 : decode cX7_isUnder 25 = .ok (.iload_n 1, 1) := by decide +kernel
theorem dX7_isUnder_26 : decode cX7_isUnder 26 = .ok (.if_icmp .ne 5, 3) := by decide +kernel
theorem dX7_isUnder_29 : decode cX7_isUnder 29 = .ok (.iconst 1, 1) := by decide +kernel
theorem dX7_isUnder_30 : decode cX7_isUnder 30 = .ok (.ireturn, 1) := by decide +kernel
theorem dX7_isUnder_31 : decode cX7_isUnder 31 = .ok (.getstatic 123, 3) := by decide +kernel
theorem dX7_isUnder_34 : decode cX7_isUnder 34 = .ok (.iload_n 2, 1) := by decide +kernel
theorem dX7_isUnder_35 : decode cX7_isUnder 35 = .ok (.iaload, 1) := by decide +kernel
theorem dX7_isUnder_36 : decode cX7_isUnder 36 = .ok (.istore_n 2, 1) := by decide +kernel
theorem dX7_isUnder_37 : decode cX7_isUnder 37 = .ok (.iinc 3 1, 3) := by decide +kernel
theorem dX7_isUnder_40 : decode cX7_isUnder 40 = .ok (.goto (-36), 3) := by decide +kernel
theorem dX7_isUnder_43 : decode cX7_isUnder 43 = .ok (.iconst 0, 1) := by decide +kernel
theorem dX7_isUnder_44 : decode cX7_isUnder 44 = .ok (.ireturn, 1) := by decide +kernel
theorem dX7_gainOfMarches_0 : decode cX7_gainOfMarches 0 = .ok (.aload_n 0, 1) := by decide +kernel
theorem dX7_gainOfMarches_1 : decode cX7_gainOfMarches 1 = .ok (.getfield 39, 3) := by decide +kernel
theorem dX7_gainOfMarches_4 : decode cX7_gainOfMarches 4 = .ok (.aload_n 0, 1) := by decide +kernel
theorem dX7_gainOfMarches_5 : decode cX7_gainOfMarches 5 = .ok (.getfield 35, 3) := by decide +kernel
theorem dX7_gainOfMarches_8 : decode cX7_gainOfMarches 8 = .ok (.invokevirtual 164, 3) := by decide +kernel
theorem dX7_gainOfMarches_11 : decode cX7_gainOfMarches 11 = .ok (.aload_n 0, 1) := by decide +kernel
theorem dX7_gainOfMarches_12 : decode cX7_gainOfMarches 12 = .ok (.getfield 39, 3) := by decide +kernel
theorem dX7_gainOfMarches_15 : decode cX7_gainOfMarches 15 = .ok (.getfield 103, 3) := by decide +kernel
theorem dX7_gainOfMarches_18 : decode cX7_gainOfMarches 18 = .ok (.iload_n 1, 1) := by decide +kernel
theorem dX7_gainOfMarches_19 : decode cX7_gainOfMarches 19 = .ok (.aaload, 1) := by decide +kernel
theorem dX7_gainOfMarches_20 : decode cX7_gainOfMarches 20 = .ok (.iconst 0, 1) := by decide +kernel
theorem dX7_gainOfMarches_21 : decode cX7_gainOfMarches 21 = .ok (.iload_n 3, 1) := by decide +kernel
theorem dX7_gainOfMarches_22 : decode cX7_gainOfMarches 22 = .ok (.invokevirtual 154, 3) := by decide +kernel
theorem dX7_gainOfMarches_25 : decode cX7_gainOfMarches 25 = .ok (.aload_n 0, 1) := by decide +kernel
theorem dX7_gainOfMarches_26 : decode cX7_gainOfMarches 26 = .ok (.getfield 39, 3) := by decide +kernel
theorem dX7_gainOfMarches_29 : decode cX7_gainOfMarches 29 = .ok (.getfield 103, 3) := by decide +kernel
theorem dX7_gainOfMarches_32 : decode cX7_gainOfMarches 32 = .ok (.iload_n 1, 1) := by decide +kernel
theorem dX7_gainOfMarches_33 : decode cX7_gainOfMarches 33 = .ok (.aaload, 1) := by decide +kernel
theorem dX7_gainOfMarches_34 : decode cX7_gainOfMarches 34 = .ok (.iconst 0, 1) := by decide +kernel
theorem dX7_gainOfMarches_35 : decode cX7_gainOfMarches 35 = .ok (.iload 4, 2) := by decide +kernel
theorem dX7_gainOfMarches_37 : decode cX7_gainOfMarches 37 = .ok (.invokevirtual 154, 3) := by decide +kernel
theorem dX7_gainOfMarches_40 : decode cX7_gainOfMarches 40 = .ok (.iconst 0, 1) := by decide +kernel
theorem dX7_gainOfMarches_41 : decode cX7_gainOfMarches 41 = .ok (.istore 5, 2) := by decide +kernel
theorem dX7_gainOfMarches_43 : decode cX7_gainOfMarches 43 = .ok (.iconst 0, 1) := by decide +kernel
theorem dX7_gainOfMarches_44 : decode cX7_gainOfMarches 44 = .ok (.istore 6, 2) := by decide +kernel
theorem dX7_gainOfMarches_46 : decode cX7_gainOfMarches 46 = .ok (.iload 6, 2) := by decide +kernel
theorem dX7_gainOfMarches_48 : decode cX7_gainOfMarches 48 = .ok (.iload_n 2, 1) := by decide +kernel
theorem dX7_gainOfMarches_49 : decode cX7_gainOfMarches 49 = .ok (.if_icmp .ge 35, 3) := by decide +kernel
theorem dX7_gainOfMarches_52 : decode cX7_gainOfMarches 52 = .ok (.aload_n 0, 1) := by decide +kernel
theorem dX7_gainOfMarches_53 : decode cX7_gainOfMarches 53 = .ok (.getfield 39, 3) := by decide +kernel
theorem dX7_gainOfMarches_56 : decode cX7_gainOfMarches 56 = .ok (.invokevirtual 169, 3) := by decide +kernel
theorem dX7_gainOfMarches_59 : decode cX7_gainOfMarches 59 = .ok (.istore 7, 2) := by decide +kernel
theorem dX7_gainOfMarches_61 : decode cX7_gainOfMarches 61 = .ok (.iload 7, 2) := by decide +kernel
theorem dX7_gainOfMarches_63 : decode cX7_gainOfMarches 63 = .ok (.iload_n 1, 1) := by decide +kernel
theorem dX7_gainOfMarches_64 : decode cX7_gainOfMarches 64 = .ok (.if_icmp .ne 5, 3) := by decide +kernel
theorem dX7_gainOfMarches_67 : decode cX7_gainOfMarches 67 = .ok (.iconst (-1), 1) := by decide +kernel
theorem dX7_gainOfMarches_68 : decode cX7_gainOfMarches 68 = .ok (.ireturn, 1) := by decide +kernel
theorem dX7_gainOfMarches_69 : decode cX7_gainOfMarches 69 = .ok (.iload 7, 2) := by decide +kernel
theorem dX7_gainOfMarches_71 : decode cX7_gainOfMarches 71 = .ok (.iconst (-1), 1) := by decide +kernel
theorem dX7_gainOfMarches_72 : decode cX7_gainOfMarches 72 = .ok (.if_icmp .eq 6, 3) := by decide +kernel
theorem dX7_gainOfMarches_75 : decode cX7_gainOfMarches 75 = .ok (.iinc 5 1, 3) := by decide +kernel
theorem dX7_gainOfMarches_78 : decode cX7_gainOfMarches 78 = .ok (.iinc 6 1, 3) := by decide +kernel
theorem dX7_gainOfMarches_81 : decode cX7_gainOfMarches 81 = .ok (.goto (-35), 3) := by decide +kernel
theorem dX7_gainOfMarches_84 : decode cX7_gainOfMarches 84 = .ok (.iload 5, 2) := by decide +kernel
theorem dX7_gainOfMarches_86 : decode cX7_gainOfMarches 86 = .ok (.ireturn, 1) := by decide +kernel
theorem dX7_wouldExplain_0 : decode cX7_wouldExplain 0 = .ok (.aload_n 0, 1) := by decide +kernel
theorem dX7_wouldExplain_1 : decode cX7_wouldExplain 1 = .ok (.getfield 39, 3) := by decide +kernel
theorem dX7_wouldExplain_4 : decode cX7_wouldExplain 4 = .ok (.aload_n 0, 1) := by decide +kernel
theorem dX7_wouldExplain_5 : decode cX7_wouldExplain 5 = .ok (.getfield 35, 3) := by decide +kernel
theorem dX7_wouldExplain_8 : decode cX7_wouldExplain 8 = .ok (.invokevirtual 164, 3) := by decide +kernel
theorem dX7_wouldExplain_11 : decode cX7_wouldExplain 11 = .ok (.aload_n 0, 1) := by decide +kernel
theorem dX7_wouldExplain_12 : decode cX7_wouldExplain 12 = .ok (.getfield 39, 3) := by decide +kernel
theorem dX7_wouldExplain_15 : decode cX7_wouldExplain 15 = .ok (.getfield 103, 3) := by decide +kernel
theorem dX7_wouldExplain_18 : decode cX7_wouldExplain 18 = .ok (.iload_n 1, 1) := by decide +kernel
theorem dX7_wouldExplain_19 : decode cX7_wouldExplain 19 = .ok (.aaload, 1) := by decide +kernel
theorem dX7_wouldExplain_20 : decode cX7_wouldExplain 20 = .ok (.iload_n 2, 1) := by decide +kernel
theorem dX7_wouldExplain_21 : decode cX7_wouldExplain 21 = .ok (.iload_n 3, 1) := by decide +kernel
theorem dX7_wouldExplain_22 : decode cX7_wouldExplain 22 = .ok (.invokevirtual 217, 3) := by decide +kernel
theorem dX7_wouldExplain_25 : decode cX7_wouldExplain 25 = .ok (.aload_n 0, 1) := by decide +kernel
theorem dX7_wouldExplain_26 : decode cX7_wouldExplain 26 = .ok (.getfield 60, 3) := by decide +kernel
theorem dX7_wouldExplain_29 : decode cX7_wouldExplain 29 = .ok (.aload_n 0, 1) := by decide +kernel
theorem dX7_wouldExplain_30 : decode cX7_wouldExplain 30 = .ok (.getfield 39, 3) := by decide +kernel
theorem dX7_wouldExplain_33 : decode cX7_wouldExplain 33 = .ok (.invokevirtual 182, 3) := by decide +kernel
theorem dX7_wouldExplain_36 : decode cX7_wouldExplain 36 = .ok (.ireturn, 1) := by decide +kernel
theorem dX8_init_0 : decode cX8_init 0 = .ok (.aload_n 0, 1) := by decide +kernel
theorem dX8_init_1 : decode cX8_init 1 = .ok (.invokespecial 1, 3) := by decide +kernel
theorem dX8_init_4 : decode cX8_init 4 = .ok (.aload_n 0, 1) := by decide +kernel
theorem dX8_init_5 : decode cX8_init 5 = .ok (.sipush 160, 3) := by decide +kernel
theorem dX8_init_8 : decode cX8_init 8 = .ok (.newarray .int, 2) := by decide +kernel
theorem dX8_init_10 : decode cX8_init 10 = .ok (.putfield 7, 3) := by decide +kernel
theorem dX8_init_13 : decode cX8_init 13 = .ok (.aload_n 0, 1) := by decide +kernel
theorem dX8_init_14 : decode cX8_init 14 = .ok (.bipush 23, 2) := by decide +kernel
theorem dX8_init_16 : decode cX8_init 16 = .ok (.newarray .int, 2) := by decide +kernel
theorem dX8_init_18 : decode cX8_init 18 = .ok (.putfield 13, 3) := by decide +kernel
theorem dX8_init_21 : decode cX8_init 21 = .ok (.aload_n 0, 1) := by decide +kernel
theorem dX8_init_22 : decode cX8_init 22 = .ok (.bipush 23, 2) := by decide +kernel
theorem dX8_init_24 : decode cX8_init 24 = .ok (.newarray .int, 2) := by decide +kernel
theorem dX8_init_26 : decode cX8_init 26 = .ok (.putfield 16, 3) := by decide +kernel
theorem dX8_init_29 : decode cX8_init 29 = .ok (.aload_n 0, 1) := by decide +kernel
theorem dX8_init_30 : decode cX8_init 30 = .ok (.bipush 66, 2) := by decide +kernel
theorem dX8_init_32 : decode cX8_init 32 = .ok (.newarray .int, 2) := by decide +kernel
theorem dX8_init_34 : decode cX8_init 34 = .ok (.putfield 19, 3) := by decide +kernel
theorem dX8_init_37 : decode cX8_init 37 = .ok (.aload_n 0, 1) := by decide +kernel
theorem dX8_init_38 : decode cX8_init 38 = .ok (.sipush 528, 3) := by decide +kernel
theorem dX8_init_41 : decode cX8_init 41 = .ok (.newarray .int, 2) := by decide +kernel
theorem dX8_init_43 : decode cX8_init 43 = .ok (.putfield 22, 3) := by decide +kernel
theorem dX8_init_46 : decode cX8_init 46 = .ok (.aload_n 0, 1) := by decide +kernel
theorem dX8_init_47 : decode cX8_init 47 = .ok (.sipush 132, 3) := by decide +kernel
theorem dX8_init_50 : decode cX8_init 50 = .ok (.newarray .int, 2) := by decide +kernel
theorem dX8_init_52 : decode cX8_init 52 = .ok (.putfield 25, 3) := by decide +kernel
theorem dX8_init_55 : decode cX8_init 55 = .ok (.aload_n 0, 1) := by decide +kernel
theorem dX8_init_56 : decode cX8_init 56 = .ok (.iconst 2, 1) := by decide +kernel
theorem dX8_init_57 : decode cX8_init 57 = .ok (.newarray .boolean, 2) := by decide +kernel
theorem dX8_init_59 : decode cX8_init 59 = .ok (.putfield 28, 3) := by decide +kernel
theorem dX8_init_62 : decode cX8_init 62 = .ok (.aload_n 0, 1) := by decide +kernel
theorem dX8_init_63 : decode cX8_init 63 = .ok (.bipush 6, 2) := by decide +kernel
theorem dX8_init_65 : decode cX8_init 65 = .ok (.newarray .int, 2) := by decide +kernel
theorem dX8_init_67 : decode cX8_init 67 = .ok (.putfield 32, 3) := by decide +kernel
theorem dX8_init_70 : decode cX8_init 70 = .ok (.aload_n 0, 1) := by decide +kernel
theorem dX8_init_71 : decode cX8_init 71 = .ok (.bipush 66, 2) := by decide +kernel
theorem dX8_init_73 : decode cX8_init 73 = .ok (.newarray .int, 2) := by decide +kernel
theorem dX8_init_75 : decode cX8_init 75 = .ok (.putfield 35, 3) := by decide +kernel
theorem dX8_init_78 : decode cX8_init 78 = .ok (.aload_n 0, 1) := by decide +kernel
theorem dX8_init_79 : decode cX8_init 79 = .ok (.iconst 4, 1) := by decide +kernel
theorem dX8_init_80 : decode cX8_init 80 = .ok (.iconst 4, 1) := by decide +kernel
theorem dX8_init_81 : decode cX8_init 81 = .ok (.invokevirtual 38, 3) := by decide +kernel
theorem dX8_init_84 : decode cX8_init 84 = .ok (.aload_n 0, 1) := by decide +kernel
theorem dX8_init_85 : decode cX8_init 85 = .ok (.invokevirtual 42, 3) := by decide +kernel
theorem dX8_init_88 : decode cX8_init 88 = .ok (.return_, 1) := by decide +kernel
theorem dX8_in_0 : decode cX8_in 0 = .ok (.iload_n 0, 1) := by decide +kernel
theorem dX8_in_1 : decode cX8_in 1 = .ok (.iload_n 1, 1) := by decide +kernel
theorem dX8_in_2 : decode cX8_in 2 = .ok (.if_icmp .lt 12, 3) := by decide +kernel
theorem dX8_in_5 : decode cX8_in 5 = .ok (.iload_n 0, 1) := by decide +kernel
theorem dX8_in_6 : decode cX8_in 6 = .ok (.iload_n 2, 1) := by decide +kernel
theorem dX8_in_7 : decode cX8_in 7 = .ok (.if_icmp .gt 7, 3) := by decide +kernel
theorem dX8_in_10 : decode cX8_in 10 = .ok (.iconst 1, 1) := by decide +kernel
theorem dX8_in_11 : decode cX8_in 11 = .ok (.goto 4, 3) := by decide +kernel
theorem dX8_in_14 : decode cX8_in 14 = .ok (.iconst 0, 1) := by decide +kernel
theorem dX8_in_15 : decode cX8_in 15 = .ok (.ireturn, 1) := by decide +kernel
theorem dX8_cells_0 : decode cX8_cells 0 = .ok (.aload_n 0, 1) := by decide +kernel
theorem dX8_cells_1 : decode cX8_cells 1 = .ok (.getfield 13, 3) := by decide +kernel
theorem dX8_cells_4 : decode cX8_cells 4 = .ok (.iconst 0, 1) := by decide +kernel
theorem dX8_cells_5 : decode cX8_cells 5 = .ok (.iaload, 1) := by decide +kernel
theorem dX8_cells_6 : decode cX8_cells 6 = .ok (.aload_n 0, 1) := by decide +kernel
theorem dX8_cells_7 : decode cX8_cells 7 = .ok (.getfield 13, 3) := by decide +kernel
theorem dX8_cells_10 : decode cX8_cells 10 = .ok (.iconst 1, 1) := by decide +kernel
theorem dX8_cells_11 : decode cX8_cells 11 = .ok (.iaload, 1) := by decide +kernel
theorem dX8_cells_12 : decode cX8_cells 12 = .ok (.imul, 1) := by decide +kernel
theorem dX8_cells_13 : decode cX8_cells 13 = .ok (.ireturn, 1) := by decide +kernel
theorem dX8_write_0 : decode cX8_write 0 = .ok (.iload_n 1, 1) := by decide +kernel
theorem dX8_write_1 : decode cX8_write 1 = .ok (.iconst 0, 1) := by decide +kernel
theorem dX8_write_2 : decode cX8_write 2 = .ok (.sipush 255, 3) := by decide +kernel
theorem dX8_write_5 : decode cX8_write 5 = .ok (.invokestatic 45, 3) := by decide +kernel
theorem dX8_write_8 : decode cX8_write 8 = .ok (.ifCond .ne 6, 3) := by decide +kernel
theorem dX8_write_11 : decode cX8_write 11 = .ok (.bipush (-3), 2) := by decide +kernel
theorem dX8_write_13 : decode cX8_write 13 = .ok (.ireturn, 1) := by decide +kernel
theorem dX8_write_14 : decode cX8_write 14 = .ok (.aload_n 0, 1) := by decide +kernel
theorem dX8_write_15 : decode cX8_write 15 = .ok (.getfield 49, 3) := by decide +kernel
theorem dX8_write_18 : decode cX8_write 18 = .ok (.sipush 160, 3) := by decide +kernel
theorem dX8_write_21 : decode cX8_write 21 = .ok (.if_icmp .ne 6, 3) := by decide +kernel
theorem dX8_write_24 : decode cX8_write 24 = .ok (.bipush (-5), 2) := by decide +kernel
theorem dX8_write_26 : decode cX8_write 26 = .ok (.ireturn, 1) := by decide +kernel
theorem dX8_write_27 : decode cX8_write 27 = .ok (.aload_n 0, 1) := by decide +kernel
theorem dX8_write_28 : decode cX8_write 28 = .ok (.getfield 7, 3) := by decide +kernel
theorem dX8_write_31 : decode cX8_write 31 = .ok (.aload_n 0, 1) := by decide +kernel
theorem dX8_write_32 : decode cX8_write 32 = .ok (.getfield 49, 3) := by decide +kernel
theorem dX8_write_35 : decode cX8_write 35 = .ok (.iload_n 1, 1) := by decide +kernel
theorem dX8_write_36 : decode cX8_write 36 = .ok (.iastore, 1) := by decide +kernel
theorem dX8_write_37 : decode cX8_write 37 = .ok (.aload_n 0, 1) := by decide +kernel
theorem dX8_write_38 : decode cX8_write 38 = .ok (.dup, 1) := by decide +kernel
theorem dX8_write_39 : decode cX8_write 39 = .ok (.getfield 49, 3) := by decide +kernel
theorem dX8_write_42 : decode cX8_write 42 = .ok (.iconst 1, 1) := by decide +kernel
theorem dX8_write_43 : decode cX8_write 43 = .ok (.iadd, 1) := by decide +kernel
theorem dX8_write_44 : decode cX8_write 44 = .ok (.putfield 49, 3) := by decide +kernel
theorem dX8_write_47 : decode cX8_write 47 = .ok (.aload_n 0, 1) := by decide +kernel
theorem dX8_write_48 : decode cX8_write 48 = .ok (.getfield 49, 3) := by decide +kernel
theorem dX8_write_51 : decode cX8_write 51 = .ok (.ireturn, 1) := by decide +kernel
theorem dX8_erase_0 : decode cX8_erase 0 = .ok (.aload_n 0, 1) := by decide +kernel
theorem dX8_erase_1 : decode cX8_erase 1 = .ok (.getfield 49, 3) := by decide +kernel
theorem dX8_erase_4 : decode cX8_erase 4 = .ok (.istore_n 1, 1) := by decide +kernel
theorem dX8_erase_5 : decode cX8_erase 5 = .ok (.aload_n 0, 1) := by decide +kernel
theorem dX8_erase_6 : decode cX8_erase 6 = .ok (.iconst 0, 1) := by decide +kernel
theorem dX8_erase_7 : decode cX8_erase 7 = .ok (.putfield 49, 3) := by decide +kernel
theorem dX8_erase_10 : decode cX8_erase 10 = .ok (.iload_n 1, 1) := by decide +kernel
theorem dX8_erase_11 : decode cX8_erase 11 = .ok (.ireturn, 1) := by decide +kernel
theorem dX8_letterAt_0 : decode cX8_letterAt 0 = .ok (.iload_n 1, 1) := by decide +kernel
theorem dX8_letterAt_1 : decode cX8_letterAt 1 = .ok (.aload_n 0, 1) := by decide +kernel
theorem dX8_letterAt_2 : decode cX8_letterAt 2 = .ok (.getfield 49, 3) := by decide +kernel
theorem dX8_letterAt_5 : decode cX8_letterAt 5 = .ok (.if_icmp .ge 12, 3) := by decide +kernel
theorem dX8_letterAt_8 : decode cX8_letterAt 8 = .ok (.aload_n 0, 1) := by decide +kernel
theorem dX8_letterAt_9 : decode cX8_letterAt 9 = .ok (.getfield 7, 3) := by decide +kernel
theorem dX8_letterAt_12 : decode cX8_letterAt 12 = .ok (.iload_n 1, 1) := by decide +kernel
theorem dX8_letterAt_13 : decode cX8_letterAt 13 = .ok (.iaload, 1) := by decide +kernel
theorem dX8_letterAt_14 : decode cX8_letterAt 14 = .ok (.goto 4, 3) := by decide +kernel
theorem dX8_letterAt_17 : decode cX8_letterAt 17 = .ok (.iconst (-1), 1) := by decide +kernel
theorem dX8_letterAt_18 : decode cX8_letterAt 18 = .ok (.ireturn, 1) := by decide +kernel
theorem dX8_isLetter_0 : decode cX8_isLetter 0 = .ok (.iload_n 0, 1) := by decide +kernel
theorem dX8_isLetter_1 : decode cX8_isLetter 1 = .ok (.bipush 97, 2) := by decide +kernel
theorem dX8_isLetter_3 : decode cX8_isLetter 3 = .ok (.bipush 122, 2) := by decide +kernel
theorem dX8_isLetter_5 : decode cX8_isLetter 5 = .ok (.invokestatic 45, 3) := by decide +kernel
theorem dX8_isLetter_8 : decode cX8_isLetter 8 = .ok (.ireturn, 1) := by decide +kernel
theorem dX8_isDigit_0 : decode cX8_isDigit 0 = .ok (.iload_n 0, 1) := by decide +kernel
theorem dX8_isDigit_1 : decode cX8_isDigit 1 = .ok (.bipush 48, 2) := by decide +kernel
theorem dX8_isDigit_3 : decode cX8_isDigit 3 = .ok (.bipush 57, 2) := by decide +kernel
theorem dX8_isDigit_5 : decode cX8_isDigit 5 = .ok (.invokestatic 45, 3) := by decide +kernel
theorem dX8_isDigit_8 : decode cX8_isDigit 8 = .ok (.ireturn, 1) := by decide +kernel
theorem dX8_token_0 : decode cX8_token 0 = .ok (.aload_n 0, 1) := by decide +kernel
theorem dX8_token_1 : decode cX8_token 1 = .ok (.aload_n 0, 1) := by decide +kernel
theorem dX8_token_2 : decode cX8_token 2 = .ok (.getfield 53, 3) := by decide +kernel
theorem dX8_token_5 : decode cX8_token 5 = .ok (.invokevirtual 56, 3) := by decide +kernel
theorem dX8_token_8 : decode cX8_token 8 = .ok (.bipush 32, 2) := by decide +kernel
theorem dX8_token_10 : decode cX8_token 10 = .ok (.if_icmp .ne 16, 3) := by decide +kernel
theorem dX8_token_13 : decode cX8_token 13 = .ok (.aload_n 0, 1) := by decide +kernel
theorem dX8_token_14 : decode cX8_token 14 = .ok (.dup, 1) := by decide +kernel
theorem dX8_token_15 : decode cX8_token 15 = .ok (.getfield 53, 3) := by decide +kernel
theorem dX8_token_18 : decode cX8_token 18 = .ok (.iconst 1, 1) := by decide +kernel
theorem dX8_token_19 : decode cX8_token 19 = .ok (.iadd, 1) := by decide +kernel
theorem dX8_token_20 : decode cX8_token 20 = .ok (.putfield 53, 3) := by decide +kernel
theorem dX8_token_23 : decode cX8_token 23 = .ok (.goto (-23), 3) := by decide +kernel
theorem dX8_token_26 : decode cX8_token 26 = .ok (.aload_n 0, 1) := by decide +kernel
theorem dX8_token_27 : decode cX8_token 27 = .ok (.aload_n 0, 1) := by decide +kernel
theorem dX8_token_28 : decode cX8_token 28 = .ok (.getfield 53, 3) := by decide +kernel
theorem dX8_token_31 : decode cX8_token 31 = .ok (.putfield 60, 3) := by decide +kernel
theorem dX8_token_34 : decode cX8_token 34 = .ok (.aload_n 0, 1) := by decide +kernel
theorem dX8_token_35 : decode cX8_token 35 = .ok (.aload_n 0, 1) := by decide +kernel
theorem dX8_token_36 : decode cX8_token 36 = .ok (.getfield 53, 3) := by decide +kernel
theorem dX8_token_39 : decode cX8_token 39 = .ok (.invokevirtual 56, 3) := by decide +kernel
theorem dX8_token_42 : decode cX8_token 42 = .ok (.istore_n 1, 1) := by decide +kernel
theorem dX8_token_43 : decode cX8_token 43 = .ok (.aload_n 0, 1) := by decide +kernel
theorem dX8_token_44 : decode cX8_token 44 = .ok (.iload_n 1, 1) := by decide +kernel
theorem dX8_token_45 : decode cX8_token 45 = .ok (.ifCond .ge 7, 3) := by decide +kernel
theorem dX8_token_48 : decode cX8_token 48 = .ok (.iconst 0, 1) := by decide +kernel
theorem dX8_token_49 : decode cX8_token 49 = .ok (.goto 26, 3) := by decide +kernel
theorem dX8_token_52 : decode cX8_token 52 = .ok (.iload_n 1, 1) := by decide +kernel
theorem dX8_token_53 : decode cX8_token 53 = .ok (.invokestatic 63, 3) := by decide +kernel
theorem dX8_token_56 : decode cX8_token 56 = .ok (.ifCond .eq 7, 3) := by decide +kernel
theorem dX8_token_59 : decode cX8_token 59 = .ok (.iconst 1, 1) := by decide +kernel
theorem dX8_token_60 : decode cX8_token 60 = .ok (.goto 15, 3) := by decide +kernel
theorem dX8_token_63 : decode cX8_token 63 = .ok (.iload_n 1, 1) := by decide +kernel
theorem dX8_token_64 : decode cX8_token 64 = .ok (.invokestatic 67, 3) := by decide +kernel
theorem dX8_token_67 : decode cX8_token 67 = .ok (.ifCond .eq 7, 3) := by decide +kernel
theorem dX8_token_70 : decode cX8_token 70 = .ok (.iconst 2, 1) := by decide +kernel
theorem dX8_token_71 : decode cX8_token 71 = .ok (.goto 4, 3) := by decide +kernel
theorem dX8_token_74 : decode cX8_token 74 = .ok (.iconst 3, 1) := by decide +kernel
theorem dX8_token_75 : decode cX8_token 75 = .ok (.putfield 70, 3) := by decide +kernel
theorem dX8_token_78 : decode cX8_token 78 = .ok (.aload_n 0, 1) := by decide +kernel
theorem dX8_token_79 : decode cX8_token 79 = .ok (.iconst 0, 1) := by decide +kernel
theorem dX8_token_80 : decode cX8_token 80 = .ok (.putfield 73, 3) := by decide +kernel
theorem dX8_token_83 : decode cX8_token 83 = .ok (.aload_n 0, 1) := by decide +kernel
theorem dX8_token_84 : decode cX8_token 84 = .ok (.getfield 70, 3) := by decide +kernel
theorem dX8_token_87 : decode cX8_token 87 = .ok (.iconst 1, 1) := by decide +kernel
theorem dX8_token_88 : decode cX8_token 88 = .ok (.if_icmp .ne 30, 3) := by decide +kernel
theorem dX8_token_91 : decode cX8_token 91 = .ok (.aload_n 0, 1) := by decide +kernel
theorem dX8_token_92 : decode cX8_token 92 = .ok (.aload_n 0, 1) := by decide +kernel
theorem dX8_token_93 : decode cX8_token 93 = .ok (.getfield 53, 3) := by decide +kernel
theorem dX8_token_96 : decode cX8_token 96 = .ok (.invokevirtual 56, 3) := by decide +kernel
theorem dX8_token_99 : decode cX8_token 99 = .ok (.invokestatic 63, 3) := by decide +kernel
theorem dX8_token_102 : decode cX8_token 102 = .ok (.ifCond .eq 16, 3) := by decide +kernel
theorem dX8_token_105 : decode cX8_token 105 = .ok (.aload_n 0, 1) := by decide +kernel
theorem dX8_token_106 : decode cX8_token 106 = .ok (.dup, 1) := by decide +kernel
theorem dX8_token_107 : decode cX8_token 107 = .ok (.getfield 53, 3) := by decide +kernel
theorem dX8_token_110 : decode cX8_token 110 = .ok (.iconst 1, 1) := by decide +kernel
theorem dX8_token_111 : decode cX8_token 111 = .ok (.iadd, 1) := by decide +kernel
theorem dX8_token_112 : decode cX8_token 112 = .ok (.putfield 53, 3) := by decide +kernel
theorem dX8_token_115 : decode cX8_token 115 = .ok (.goto (-32), 3) := by decide +kernel
theorem dX8_token_118 : decode cX8_token 118 = .ok (.aload_n 0, 1) := by decide +kernel
theorem dX8_token_119 : decode cX8_token 119 = .ok (.getfield 70, 3) := by decide +kernel
theorem dX8_token_122 : decode cX8_token 122 = .ok (.iconst 2, 1) := by decide +kernel
theorem dX8_token_123 : decode cX8_token 123 = .ok (.if_icmp .ne 72, 3) := by decide +kernel
theorem dX8_token_126 : decode cX8_token 126 = .ok (.aload_n 0, 1) := by decide +kernel
theorem dX8_token_127 : decode cX8_token 127 = .ok (.aload_n 0, 1) := by decide +kernel
theorem dX8_token_128 : decode cX8_token 128 = .ok (.getfield 53, 3) := by decide +kernel
theorem dX8_token_131 : decode cX8_token 131 = .ok (.invokevirtual 56, 3) := by decide +kernel
theorem dX8_token_134 : decode cX8_token 134 = .ok (.invokestatic 67, 3) := by decide +kernel
theorem dX8_token_137 : decode cX8_token 137 = .ok (.ifCond .eq 58, 3) := by decide +kernel
theorem dX8_token_140 : decode cX8_token 140 = .ok (.aload_n 0, 1) := by decide +kernel
theorem dX8_token_141 : decode cX8_token 141 = .ok (.aload_n 0, 1) := by decide +kernel
theorem dX8_token_142 : decode cX8_token 142 = .ok (.getfield 53, 3) := by decide +kernel
theorem dX8_token_145 : decode cX8_token 145 = .ok (.aload_n 0, 1) := by decide +kernel
theorem dX8_token_146 : decode cX8_token 146 = .ok (.getfield 60, 3) := by decide +kernel
theorem dX8_token_149 : decode cX8_token 149 = .ok (.isub, 1) := by decide +kernel
theorem dX8_token_150 : decode cX8_token 150 = .ok (.iconst 2, 1) := by decide +kernel
theorem dX8_token_151 : decode cX8_token 151 = .ok (.if_icmp .ge 26, 3) := by decide +kernel
theorem dX8_token_154 : decode cX8_token 154 = .ok (.bipush 10, 2) := by decide +kernel
theorem dX8_token_156 : decode cX8_token 156 = .ok (.aload_n 0, 1) := by decide +kernel
theorem dX8_token_157 : decode cX8_token 157 = .ok (.getfield 73, 3) := by decide +kernel
theorem dX8_token_160 : decode cX8_token 160 = .ok (.imul, 1) := by decide +kernel
theorem dX8_token_161 : decode cX8_token 161 = .ok (.aload_n 0, 1) := by decide +kernel
theorem dX8_token_162 : decode cX8_token 162 = .ok (.getfield 7, 3) := by decide +kernel
theorem dX8_token_165 : decode cX8_token 165 = .ok (.aload_n 0, 1) := by decide +kernel
theorem dX8_token_166 : decode cX8_token 166 = .ok (.getfield 53, 3) := by decide +kernel
theorem dX8_token_169 : decode cX8_token 169 = .ok (.iaload, 1) := by decide +kernel
theorem dX8_token_170 : decode cX8_token 170 = .ok (.iadd, 1) := by decide +kernel
theorem dX8_token_171 : decode cX8_token 171 = .ok (.bipush 48, 2) := by decide +kernel
theorem dX8_token_173 : decode cX8_token 173 = .ok (.isub, 1) := by decide +kernel
theorem dX8_token_174 : decode cX8_token 174 = .ok (.goto 5, 3) := by decide +kernel
theorem dX8_token_177 : decode cX8_token 177 = .ok (.bipush 100, 2) := by decide +kernel
theorem dX8_token_179 : decode cX8_token 179 = .ok (.putfield 73, 3) := by decide +kernel
theorem dX8_token_182 : decode cX8_token 182 = .ok (.aload_n 0, 1) := by decide +kernel
theorem dX8_token_183 : decode cX8_token 183 = .ok (.dup, 1) := by decide +kernel
theorem dX8_token_184 : decode cX8_token 184 = .ok (.getfield 53, 3) := by decide +kernel
theorem dX8_token_187 : decode cX8_token 187 = .ok (.iconst 1, 1) := by decide +kernel
theorem dX8_token_188 : decode cX8_token 188 = .ok (.iadd, 1) := by decide +kernel
theorem dX8_token_189 : decode cX8_token 189 = .ok (.putfield 53, 3) := by decide +kernel
theorem dX8_token_192 : decode cX8_token 192 = .ok (.goto (-74), 3) := by decide +kernel
theorem dX8_token_195 : decode cX8_token 195 = .ok (.aload_n 0, 1) := by decide +kernel
theorem dX8_token_196 : decode cX8_token 196 = .ok (.dup, 1) := by decide +kernel
theorem dX8_token_197 : decode cX8_token 197 = .ok (.getfield 53, 3) := by decide +kernel
theorem dX8_token_200 : decode cX8_token 200 = .ok (.aload_n 0, 1) := by decide +kernel
theorem dX8_token_201 : decode cX8_token 201 = .ok (.getfield 70, 3) := by decide +kernel
theorem dX8_token_204 : decode cX8_token 204 = .ok (.iconst 3, 1) := by decide +kernel
theorem dX8_token_205 : decode cX8_token 205 = .ok (.if_icmp .ne 7, 3) := by decide +kernel
theorem dX8_token_208 : decode cX8_token 208 = .ok (.iconst 1, 1) := by decide +kernel
theorem dX8_token_209 : decode cX8_token 209 = .ok (.goto 4, 3) := by decide +kernel
theorem dX8_token_212 : decode cX8_token 212 = .ok (.iconst 0, 1) := by decide +kernel
theorem dX8_token_213 : decode cX8_token 213 = .ok (.iadd, 1) := by decide +kernel
theorem dX8_token_214 : decode cX8_token 214 = .ok (.putfield 53, 3) := by decide +kernel
theorem dX8_token_217 : decode cX8_token 217 = .ok (.return_, 1) := by decide +kernel
theorem dX8_isWord_0 : decode cX8_isWord 0 = .ok (.aload_n 0, 1) := by decide +kernel
theorem dX8_isWord_1 : decode cX8_isWord 1 = .ok (.getfield 70, 3) := by decide +kernel
theorem dX8_isWord_4 : decode cX8_isWord 4 = .ok (.iconst 1, 1) := by decide +kernel
theorem dX8_isWord_5 : decode cX8_isWord 5 = .ok (.if_icmp .ne 21, 3) := by decide +kernel
theorem dX8_isWord_8 : decode cX8_isWord 8 = .ok (.aload_n 0, 1) := by decide +kernel
theorem dX8_isWord_9 : decode cX8_isWord 9 = .ok (.getfield 53, 3) := by decide +kernel
theorem dX8_isWord_12 : decode cX8_isWord 12 = .ok (.aload_n 0, 1) := by decide +kernel
theorem dX8_isWord_13 : decode cX8_isWord 13 = .ok (.getfield 60, 3) := by decide +kernel
theorem dX8_isWord_16 : decode cX8_isWord 16 = .ok (.isub, 1) := by decide +kernel
theorem dX8_isWord_17 : decode cX8_isWord 17 = .ok (.bipush 7, 2) := by decide +kernel
theorem dX8_isWord_19 : decode cX8_isWord 19 = .ok (.if_icmp .ge 7, 3) := by decide +kernel
theorem dX8_isWord_22 : decode cX8_isWord 22 = .ok (.iconst 1, 1) := by decide +kernel
theorem dX8_isWord_23 : decode cX8_isWord 23 = .ok (.goto 4, 3) := by decide +kernel
theorem dX8_isWord_26 : decode cX8_isWord 26 = .ok (.iconst 0, 1) := by decide +kernel
theorem dX8_isWord_27 : decode cX8_isWord 27 = .ok (.istore 7, 2) := by decide +kernel
theorem dX8_isWord_29 : decode cX8_isWord 29 = .ok (.iconst 0, 1) := by decide +kernel
theorem dX8_isWord_30 : decode cX8_isWord 30 = .ok (.istore 8, 2) := by decide +kernel
theorem dX8_isWord_32 : decode cX8_isWord 32 = .ok (.iload 8, 2) := by decide +kernel
theorem dX8_isWord_34 : decode cX8_isWord 34 = .ok (.bipush 6, 2) := by decide +kernel
theorem dX8_isWord_36 : decode cX8_isWord 36 = .ok (.if_icmp .ge 120, 3) := by decide +kernel
theorem dX8_isWord_39 : decode cX8_isWord 39 = .ok (.iload 7, 2) := by decide +kernel
theorem dX8_isWord_41 : decode cX8_isWord 41 = .ok (.ifCond .eq 115, 3) := by decide +kernel
theorem dX8_isWord_44 : decode cX8_isWord 44 = .ok (.iload 8, 2) := by decide +kernel
theorem dX8_isWord_46 : decode cX8_isWord 46 = .ok (.ifCond .ne 7, 3) := by decide +kernel
theorem dX8_isWord_49 : decode cX8_isWord 49 = .ok (.iload_n 1, 1) := by decide +kernel
theorem dX8_isWord_50 : decode cX8_isWord 50 = .ok (.goto 47, 3) := by decide +kernel
theorem dX8_isWord_53 : decode cX8_isWord 53 = .ok (.iload 8, 2) := by decide +kernel
theorem dX8_isWord_55 : decode cX8_isWord 55 = .ok (.iconst 1, 1) := by decide +kernel
theorem dX8_isWord_56 : decode cX8_isWord 56 = .ok (.if_icmp .ne 7, 3) := by decide +kernel
theorem dX8_isWord_59 : decode cX8_isWord 59 = .ok (.iload_n 2, 1) := by decide +kernel
theorem dX8_isWord_60 : decode cX8_isWord 60 = .ok (.goto 37, 3) := by decide +kernel
theorem dX8_isWord_63 : decode cX8_isWord 63 = .ok (.iload 8, 2) := by decide +kernel
theorem dX8_isWord_65 : decode cX8_isWord 65 = .ok (.iconst 2, 1) := by decide +kernel
theorem dX8_isWord_66 : decode cX8_isWord 66 = .ok (.if_icmp .ne 7, 3) := by decide +kernel
theorem dX8_isWord_69 : decode cX8_isWord 69 = .ok (.iload_n 3, 1) := by decide +kernel
theorem dX8_isWord_70 : decode cX8_isWord 70 = .ok (.goto 27, 3) := by decide +kernel
theorem dX8_isWord_73 : decode cX8_isWord 73 = .ok (.iload 8, 2) := by decide +kernel
theorem dX8_isWord_75 : decode cX8_isWord 75 = .ok (.iconst 3, 1) := by decide +kernel
theorem dX8_isWord_76 : decode cX8_isWord 76 = .ok (.if_icmp .ne 8, 3) := by decide +kernel
theorem dX8_isWord_79 : decode cX8_isWord 79 = .ok (.iload 4, 2) := by decide +kernel
theorem dX8_isWord_81 : decode cX8_isWord 81 = .ok (.goto 16, 3) := by decide +kernel
theorem dX8_isWord_84 : decode cX8_isWord 84 = .ok (.iload 8, 2) := by decide +kernel
theorem dX8_isWord_86 : decode cX8_isWord 86 = .ok (.iconst 4, 1) := by decide +kernel
theorem dX8_isWord_87 : decode cX8_isWord 87 = .ok (.if_icmp .ne 8, 3) := by decide +kernel
theorem dX8_isWord_90 : decode cX8_isWord 90 = .ok (.iload 5, 2) := by decide +kernel
theorem dX8_isWord_92 : decode cX8_isWord 92 = .ok (.goto 5, 3) := by decide +kernel
theorem dX8_isWord_95 : decode cX8_isWord 95 = .ok (.iload 6, 2) := by decide +kernel
theorem dX8_isWord_97 : decode cX8_isWord 97 = .ok (.istore 9, 2) := by decide +kernel
theorem dX8_isWord_99 : decode cX8_isWord 99 = .ok (.aload_n 0, 1) := by decide +kernel
theorem dX8_isWord_100 : decode cX8_isWord 100 = .ok (.getfield 60, 3) := by decide +kernel
theorem dX8_isWord_103 : decode cX8_isWord 103 = .ok (.iload 8, 2) := by decide +kernel
theorem dX8_isWord_105 : decode cX8_isWord 105 = .ok (.iadd, 1) := by decide +kernel
theorem dX8_isWord_106 : decode cX8_isWord 106 = .ok (.aload_n 0, 1) := by decide +kernel
theorem dX8_isWord_107 : decode cX8_isWord 107 = .ok (.getfield 53, 3) := by decide +kernel
theorem dX8_isWord_110 : decode cX8_isWord 110 = .ok (.if_icmp .ge 28, 3) := by decide +kernel
theorem dX8_isWord_113 : decode cX8_isWord 113 = .ok (.aload_n 0, 1) := by decide +kernel
theorem dX8_isWord_114 : decode cX8_isWord 114 = .ok (.getfield 7, 3) := by decide +kernel
theorem dX8_isWord_117 : decode cX8_isWord 117 = .ok (.aload_n 0, 1) := by decide +kernel
theorem dX8_isWord_118 : decode cX8_isWord 118 = .ok (.getfield 60, 3) := by decide +kernel
theorem dX8_isWord_121 : decode cX8_isWord 121 = .ok (.iload 8, 2) := by decide +kernel
theorem dX8_isWord_123 : decode cX8_isWord 123 = .ok (.iadd, 1) := by decide +kernel
theorem dX8_isWord_124 : decode cX8_isWord 124 = .ok (.iaload, 1) := by decide +kernel
theorem dX8_isWord_125 : decode cX8_isWord 125 = .ok (.iload 9, 2) := by decide +kernel
theorem dX8_isWord_127 : decode cX8_isWord 127 = .ok (.if_icmp .ne 7, 3) := by decide +kernel
theorem dX8_isWord_130 : decode cX8_isWord 130 = .ok (.iconst 1, 1) := by decide +kernel
theorem dX8_isWord_131 : decode cX8_isWord 131 = .ok (.goto 17, 3) := by decide +kernel
theorem dX8_isWord_134 : decode cX8_isWord 134 = .ok (.iconst 0, 1) := by decide +kernel
theorem dX8_isWord_135 : decode cX8_isWord 135 = .ok (.goto 13, 3) := by decide +kernel
theorem dX8_isWord_138 : decode cX8_isWord 138 = .ok (.iload 9, 2) := by decide +kernel
theorem dX8_isWord_140 : decode cX8_isWord 140 = .ok (.ifCond .ne 7, 3) := by decide +kernel
theorem dX8_isWord_143 : decode cX8_isWord 143 = .ok (.iconst 1, 1) := by decide +kernel
theorem dX8_isWord_144 : decode cX8_isWord 144 = .ok (.goto 4, 3) := by decide +kernel
theorem dX8_isWord_147 : decode cX8_isWord 147 = .ok (.iconst 0, 1) := by decide +kernel
theorem dX8_isWord_148 : decode cX8_isWord 148 = .ok (.istore 7, 2) := by decide +kernel
theorem dX8_isWord_150 : decode cX8_isWord 150 = .ok (.iinc 8 1, 3) := by decide +kernel
theorem dX8_isWord_153 : decode cX8_isWord 153 = .ok (.goto (-121), 3) := by decide +kernel
theorem dX8_isWord_156 : decode cX8_isWord 156 = .ok (.iload 7, 2) := by decide +kernel
theorem dX8_isWord_158 : decode cX8_isWord 158 = .ok (.ireturn, 1) := by decide +kernel
theorem dX8_number_0 : decode cX8_number 0 = .ok (.aload_n 0, 1) := by decide +kernel
theorem dX8_number_1 : decode cX8_number 1 = .ok (.invokevirtual 76, 3) := by decide +kernel
theorem dX8_number_4 : decode cX8_number 4 = .ok (.aload_n 0, 1) := by decide +kernel
theorem dX8_number_5 : decode cX8_number 5 = .ok (.getfield 70, 3) := by decide +kernel
theorem dX8_number_8 : decode cX8_number 8 = .ok (.iconst 2, 1) := by decide +kernel
theorem dX8_number_9 : decode cX8_number 9 = .ok (.if_icmp .ne 19, 3) := by decide +kernel
theorem dX8_number_12 : decode cX8_number 12 = .ok (.aload_n 0, 1) := by decide +kernel
theorem dX8_number_13 : decode cX8_number 13 = .ok (.getfield 73, 3) := by decide +kernel
theorem dX8_number_16 : decode cX8_number 16 = .ok (.iload_n 1, 1) := by decide +kernel
theorem dX8_number_17 : decode cX8_number 17 = .ok (.iload_n 2, 1) := by decide +kernel
theorem dX8_number_18 : decode cX8_number 18 = .ok (.invokestatic 45, 3) := by decide +kernel
theorem dX8_number_21 : decode cX8_number 21 = .ok (.ifCond .eq 7, 3) := by decide +kernel
theorem dX8_number_24 : decode cX8_number 24 = .ok (.iconst 1, 1) := by decide +kernel
theorem dX8_number_25 : decode cX8_number 25 = .ok (.goto 4, 3) := by decide +kernel
theorem dX8_number_28 : decode cX8_number 28 = .ok (.iconst 0, 1) := by decide +kernel
theorem dX8_number_29 : decode cX8_number 29 = .ok (.ireturn, 1) := by decide +kernel
theorem dX8_forgets_0 : decode cX8_forgets 0 = .ok (.iconst 0, 1) := by decide +kernel
theorem dX8_forgets_1 : decode cX8_forgets 1 = .ok (.istore_n 3, 1) := by decide +kernel
theorem dX8_forgets_2 : decode cX8_forgets 2 = .ok (.iload_n 3, 1) := by decide +kernel
theorem dX8_forgets_3 : decode cX8_forgets 3 = .ok (.bipush 23, 2) := by decide +kernel
theorem dX8_forgets_5 : decode cX8_forgets 5 = .ok (.if_icmp .ge 16, 3) := by decide +kernel
theorem dX8_forgets_8 : decode cX8_forgets 8 = .ok (.aload_n 0, 1) := by decide +kernel
theorem dX8_forgets_9 : decode cX8_forgets 9 = .ok (.getfield 16, 3) := by decide +kernel
theorem dX8_forgets_12 : decode cX8_forgets 12 = .ok (.iload_n 3, 1) := by decide +kernel
theorem dX8_forgets_13 : decode cX8_forgets 13 = .ok (.iconst 0, 1) := by decide +kernel
theorem dX8_forgets_14 : decode cX8_forgets 14 = .ok (.iastore, 1) := by decide +kernel
theorem dX8_forgets_15 : decode cX8_forgets 15 = .ok (.iinc 3 1, 3) := by decide +kernel
theorem dX8_forgets_18 : decode cX8_forgets 18 = .ok (.goto (-16), 3) := by decide +kernel
theorem dX8_forgets_21 : decode cX8_forgets 21 = .ok (.aload_n 0, 1) := by decide +kernel
theorem dX8_forgets_22 : decode cX8_forgets 22 = .ok (.getfield 16, 3) := by decide +kernel
theorem dX8_forgets_25 : decode cX8_forgets 25 = .ok (.iconst 0, 1) := by decide +kernel
theorem dX8_forgets_26 : decode cX8_forgets 26 = .ok (.iload_n 1, 1) := by decide +kernel
theorem dX8_forgets_27 : decode cX8_forgets 27 = .ok (.iastore, 1) := by decide +kernel
theorem dX8_forgets_28 : decode cX8_forgets 28 = .ok (.aload_n 0, 1) := by decide +kernel
theorem dX8_forgets_29 : decode cX8_forgets 29 = .ok (.getfield 16, 3) := by decide +kernel
theorem dX8_forgets_32 : decode cX8_forgets 32 = .ok (.iconst 1, 1) := by decide +kernel
theorem dX8_forgets_33 : decode cX8_forgets 33 = .ok (.iload_n 2, 1) := by decide +kernel
theorem dX8_forgets_34 : decode cX8_forgets 34 = .ok (.iastore, 1) := by decide +kernel
theorem dX8_forgets_35 : decode cX8_forgets 35 = .ok (.aload_n 0, 1) := by decide +kernel
theorem dX8_forgets_36 : decode cX8_forgets 36 = .ok (.getfield 16, 3) := by decide +kernel
theorem dX8_forgets_39 : decode cX8_forgets 39 = .ok (.iconst 2, 1) := by decide +kernel
theorem dX8_forgets_40 : decode cX8_forgets 40 = .ok (.iconst 4, 1) := by decide +kernel
theorem dX8_forgets_41 : decode cX8_forgets 41 = .ok (.iastore, 1) := by decide +kernel
theorem dX8_forgets_42 : decode cX8_forgets 42 = .ok (.iconst 0, 1) := by decide +kernel
theorem dX8_forgets_43 : decode cX8_forgets 43 = .ok (.istore_n 3, 1) := by decide +kernel
theorem dX8_forgets_44 : decode cX8_forgets 44 = .ok (.iload_n 3, 1) := by decide +kernel
theorem dX8_forgets_45 : decode cX8_forgets 45 = .ok (.bipush 23, 2) := by decide +kernel
theorem dX8_forgets_47 : decode cX8_forgets 47 = .ok (.if_icmp .ge 21, 3) := by decide +kernel
theorem dX8_forgets_50 : decode cX8_forgets 50 = .ok (.aload_n 0, 1) := by decide +kernel
theorem dX8_forgets_51 : decode cX8_forgets 51 = .ok (.getfield 13, 3) := by decide +kernel
theorem dX8_forgets_54 : decode cX8_forgets 54 = .ok (.iload_n 3, 1) := by decide +kernel
theorem dX8_forgets_55 : decode cX8_forgets 55 = .ok (.aload_n 0, 1) := by decide +kernel
theorem dX8_forgets_56 : decode cX8_forgets 56 = .ok (.getfield 16, 3) := by decide +kernel
theorem dX8_forgets_59 : decode cX8_forgets 59 = .ok (.iload_n 3, 1) := by decide +kernel
theorem dX8_forgets_60 : decode cX8_forgets 60 = .ok (.iaload, 1) := by decide +kernel
theorem dX8_forgets_61 : decode cX8_forgets 61 = .ok (.iastore, 1) := by decide +kernel
theorem dX8_forgets_62 : decode cX8_forgets 62 = .ok (.iinc 3 1, 3) := by decide +kernel
theorem dX8_forgets_65 : decode cX8_forgets 65 = .ok (.goto (-21), 3) := by decide +kernel
theorem dX8_forgets_68 : decode cX8_forgets 68 = .ok (.return_, 1) := by decide +kernel
theorem dX8_readsGround_0 : decode cX8_readsGround 0 = .ok (.aload_n 0, 1) := by decide +kernel
theorem dX8_readsGround_1 : decode cX8_readsGround 1 = .ok (.iconst 2, 1) := by decide +kernel
theorem dX8_readsGround_2 : decode cX8_readsGround 2 = .ok (.bipush 6, 2) := by decide +kernel
theorem dX8_readsGround_4 : decode cX8_readsGround 4 = .ok (.invokevirtual 79, 3) := by decide +kernel
theorem dX8_readsGround_7 : decode cX8_readsGround 7 = .ok (.ifCond .ne 5, 3) := by decide +kernel
theorem dX8_readsGround_10 : decode cX8_readsGround 10 = .ok (.iconst 0, 1) := by decide +kernel
theorem dX8_readsGround_11 : decode cX8_readsGround 11 = .ok (.ireturn, 1) := by decide +kernel
theorem dX8_readsGround_12 : decode cX8_readsGround 12 = .ok (.aload_n 0, 1) := by decide +kernel
theorem dX8_readsGround_13 : decode cX8_readsGround 13 = .ok (.getfield 73, 3) := by decide +kernel
theorem dX8_readsGround_16 : decode cX8_readsGround 16 = .ok (.istore_n 1, 1) := by decide +kernel
theorem dX8_readsGround_17 : decode cX8_readsGround 17 = .ok (.aload_n 0, 1) := by decide +kernel
theorem dX8_readsGround_18 : decode cX8_readsGround 18 = .ok (.iconst 2, 1) := by decide +kernel
theorem dX8_readsGround_19 : decode cX8_readsGround 19 = .ok (.bipush 6, 2) := by decide +kernel
theorem dX8_readsGround_21 : decode cX8_readsGround 21 = .ok (.invokevirtual 79, 3) := by decide +kernel
theorem dX8_readsGround_24 : decode cX8_readsGround 24 = .ok (.ifCond .ne 5, 3) := by decide +kernel
theorem dX8_readsGround_27 : decode cX8_readsGround 27 = .ok (.iconst 0, 1) := by decide +kernel
theorem dX8_readsGround_28 : decode cX8_readsGround 28 = .ok (.ireturn, 1) := by decide +kernel
theorem dX8_readsGround_29 : decode cX8_readsGround 29 = .ok (.iconst 0, 1) := by decide +kernel
theorem dX8_readsGround_30 : decode cX8_readsGround 30 = .ok (.istore_n 2, 1) := by decide +kernel
theorem dX8_readsGround_31 : decode cX8_readsGround 31 = .ok (.iload_n 2, 1) := by decide +kernel
theorem dX8_readsGround_32 : decode cX8_readsGround 32 = .ok (.bipush 23, 2) := by decide +kernel
theorem dX8_readsGround_34 : decode cX8_readsGround 34 = .ok (.if_icmp .ge 16, 3) := by decide +kernel
theorem dX8_readsGround_37 : decode cX8_readsGround 37 = .ok (.aload_n 0, 1) := by decide +kernel
theorem dX8_readsGround_38 : decode cX8_readsGround 38 = .ok (.getfield 16, 3) := by decide +kernel
theorem dX8_readsGround_41 : decode cX8_readsGround 41 = .ok (.iload_n 2, 1) := by decide +kernel
theorem dX8_readsGround_42 : decode cX8_readsGround 42 = .ok (.iconst 0, 1) := by decide +kernel
theorem dX8_readsGround_43 : decode cX8_readsGround 43 = .ok (.iastore, 1) := by decide +kernel
theorem dX8_readsGround_44 : decode cX8_readsGround 44 = .ok (.iinc 2 1, 3) := by decide +kernel
theorem dX8_readsGround_47 : decode cX8_readsGround 47 = .ok (.goto (-16), 3) := by decide +kernel
theorem dX8_readsGround_50 : decode cX8_readsGround 50 = .ok (.aload_n 0, 1) := by decide +kernel
theorem dX8_readsGround_51 : decode cX8_readsGround 51 = .ok (.getfield 16, 3) := by decide +kernel
theorem dX8_readsGround_54 : decode cX8_readsGround 54 = .ok (.iconst 0, 1) := by decide +kernel
theorem dX8_readsGround_55 : decode cX8_readsGround 55 = .ok (.iload_n 1, 1) := by decide +kernel
theorem dX8_readsGround_56 : decode cX8_readsGround 56 = .ok (.iastore, 1) := by decide +kernel
theorem dX8_readsGround_57 : decode cX8_readsGround 57 = .ok (.aload_n 0, 1) := by decide +kernel
theorem dX8_readsGround_58 : decode cX8_readsGround 58 = .ok (.getfield 16, 3) := by decide +kernel
theorem dX8_readsGround_61 : decode cX8_readsGround 61 = .ok (.iconst 1, 1) := by decide +kernel
theorem dX8_readsGround_62 : decode cX8_readsGround 62 = .ok (.aload_n 0, 1) := by decide +kernel
theorem dX8_readsGround_63 : decode cX8_readsGround 63 = .ok (.getfield 73, 3) := by decide +kernel
theorem dX8_readsGround_66 : decode cX8_readsGround 66 = .ok (.iastore, 1) := by decide +kernel
theorem dX8_readsGround_67 : decode cX8_readsGround 67 = .ok (.aload_n 0, 1) := by decide +kernel
theorem dX8_readsGround_68 : decode cX8_readsGround 68 = .ok (.getfield 16, 3) := by decide +kernel
theorem dX8_readsGround_71 : decode cX8_readsGround 71 = .ok (.iconst 2, 1) := by decide +kernel
theorem dX8_readsGround_72 : decode cX8_readsGround 72 = .ok (.iconst 4, 1) := by decide +kernel
theorem dX8_readsGround_73 : decode cX8_readsGround 73 = .ok (.iastore, 1) := by decide +kernel
theorem dX8_readsGround_74 : decode cX8_readsGround 74 = .ok (.iconst 1, 1) := by decide +kernel
theorem dX8_readsGround_75 : decode cX8_readsGround 75 = .ok (.ireturn, 1) := by decide +kernel
theorem dX8_readsStand_0 : decode cX8_readsStand 0 = .ok (.aload_n 0, 1) := by decide +kernel
theorem dX8_readsStand_1 : decode cX8_readsStand 1 = .ok (.iconst 0, 1) := by decide +kernel
theorem dX8_readsStand_2 : decode cX8_readsStand 2 = .ok (.aload_n 0, 1) := by decide +kernel
theorem dX8_readsStand_3 : decode cX8_readsStand 3 = .ok (.getfield 16, 3) := by decide +kernel
theorem dX8_readsStand_6 : decode cX8_readsStand 6 = .ok (.iconst 0, 1) := by decide +kernel
theorem dX8_readsStand_7 : decode cX8_readsStand 7 = .ok (.iaload, 1) := by decide +kernel
theorem dX8_readsStand_8 : decode cX8_readsStand 8 = .ok (.aload_n 0, 1) := by decide +kernel
theorem dX8_readsStand_9 : decode cX8_readsStand 9 = .ok (.getfield 16, 3) := by decide +kernel
theorem dX8_readsStand_12 : decode cX8_readsStand 12 = .ok (.iconst 1, 1) := by decide +kernel
theorem dX8_readsStand_13 : decode cX8_readsStand 13 = .ok (.iaload, 1) := by decide +kernel
theorem dX8_readsStand_14 : decode cX8_readsStand 14 = .ok (.imul, 1) := by decide +kernel
theorem dX8_readsStand_15 : decode cX8_readsStand 15 = .ok (.iconst 1, 1) := by decide +kernel
theorem dX8_readsStand_16 : decode cX8_readsStand 16 = .ok (.isub, 1) := by decide +kernel
theorem dX8_readsStand_17 : decode cX8_readsStand 17 = .ok (.invokevirtual 79, 3) := by decide +kernel
theorem dX8_readsStand_20 : decode cX8_readsStand 20 = .ok (.ifCond .ne 5, 3) := by decide +kernel
theorem dX8_readsStand_23 : decode cX8_readsStand 23 = .ok (.iconst 0, 1) := by decide +kernel
theorem dX8_readsStand_24 : decode cX8_readsStand 24 = .ok (.ireturn, 1) := by decide +kernel
theorem dX8_readsStand_25 : decode cX8_readsStand 25 = .ok (.aload_n 0, 1) := by decide +kernel
theorem dX8_readsStand_26 : decode cX8_readsStand 26 = .ok (.getfield 16, 3) := by decide +kernel
theorem dX8_readsStand_29 : decode cX8_readsStand 29 = .ok (.iconst 3, 1) := by decide +kernel
theorem dX8_readsStand_30 : decode cX8_readsStand 30 = .ok (.aload_n 0, 1) := by decide +kernel
theorem dX8_readsStand_31 : decode cX8_readsStand 31 = .ok (.getfield 73, 3) := by decide +kernel
theorem dX8_readsStand_34 : decode cX8_readsStand 34 = .ok (.iastore, 1) := by decide +kernel
theorem dX8_readsStand_35 : decode cX8_readsStand 35 = .ok (.aload_n 0, 1) := by decide +kernel
theorem dX8_readsStand_36 : decode cX8_readsStand 36 = .ok (.iconst 0, 1) := by decide +kernel
theorem dX8_readsStand_37 : decode cX8_readsStand 37 = .ok (.iconst 3, 1) := by decide +kernel
theorem dX8_readsStand_38 : decode cX8_readsStand 38 = .ok (.invokevirtual 79, 3) := by decide +kernel
theorem dX8_readsStand_41 : decode cX8_readsStand 41 = .ok (.istore_n 1, 1) := by decide +kernel
theorem dX8_readsStand_42 : decode cX8_readsStand 42 = .ok (.aload_n 0, 1) := by decide +kernel
theorem dX8_readsStand_43 : decode cX8_readsStand 43 = .ok (.getfield 16, 3) := by decide +kernel
theorem dX8_readsStand_46 : decode cX8_readsStand 46 = .ok (.iconst 4, 1) := by decide +kernel
theorem dX8_readsStand_47 : decode cX8_readsStand 47 = .ok (.aload_n 0, 1) := by decide +kernel
theorem dX8_readsStand_48 : decode cX8_readsStand 48 = .ok (.getfield 73, 3) := by decide +kernel
theorem dX8_readsStand_51 : decode cX8_readsStand 51 = .ok (.iastore, 1) := by decide +kernel
theorem dX8_readsStand_52 : decode cX8_readsStand 52 = .ok (.iload_n 1, 1) := by decide +kernel
theorem dX8_readsStand_53 : decode cX8_readsStand 53 = .ok (.ireturn, 1) := by decide +kernel
theorem dX8_readsFigure_0 : decode cX8_readsFigure 0 = .ok (.aload_n 0, 1) := by decide +kernel
theorem dX8_readsFigure_1 : decode cX8_readsFigure 1 = .ok (.iconst 0, 1) := by decide +kernel
theorem dX8_readsFigure_2 : decode cX8_readsFigure 2 = .ok (.iconst 1, 1) := by decide +kernel
theorem dX8_readsFigure_3 : decode cX8_readsFigure 3 = .ok (.invokevirtual 79, 3) := by decide +kernel
theorem dX8_readsFigure_6 : decode cX8_readsFigure 6 = .ok (.ifCond .eq 19, 3) := by decide +kernel
theorem dX8_readsFigure_9 : decode cX8_readsFigure 9 = .ok (.aload_n 0, 1) := by decide +kernel
theorem dX8_readsFigure_10 : decode cX8_readsFigure 10 = .ok (.getfield 16, 3) := by decide +kernel
theorem dX8_readsFigure_13 : decode cX8_readsFigure 13 = .ok (.iconst 5, 1) := by decide +kernel
theorem dX8_readsFigure_14 : decode cX8_readsFigure 14 = .ok (.aload_n 0, 1) := by decide +kernel
theorem dX8_readsFigure_15 : decode cX8_readsFigure 15 = .ok (.getfield 73, 3) := by decide +kernel
theorem dX8_readsFigure_18 : decode cX8_readsFigure 18 = .ok (.iadd, 1) := by decide +kernel
theorem dX8_readsFigure_19 : decode cX8_readsFigure 19 = .ok (.iaload, 1) := by decide +kernel
theorem dX8_readsFigure_20 : decode cX8_readsFigure 20 = .ok (.bipush 8, 2) := by decide +kernel
theorem dX8_readsFigure_22 : decode cX8_readsFigure 22 = .ok (.if_icmp .ne 5, 3) := by decide +kernel
theorem dX8_readsFigure_25 : decode cX8_readsFigure 25 = .ok (.iconst 0, 1) := by decide +kernel
theorem dX8_readsFigure_26 : decode cX8_readsFigure 26 = .ok (.ireturn, 1) := by decide +kernel
theorem dX8_readsFigure_27 : decode cX8_readsFigure 27 = .ok (.aload_n 0, 1) := by decide +kernel
theorem dX8_readsFigure_28 : decode cX8_readsFigure 28 = .ok (.getfield 73, 3) := by decide +kernel
theorem dX8_readsFigure_31 : decode cX8_readsFigure 31 = .ok (.istore_n 2, 1) := by decide +kernel
theorem dX8_readsFigure_32 : decode cX8_readsFigure 32 = .ok (.aload_n 0, 1) := by decide +kernel
theorem dX8_readsFigure_33 : decode cX8_readsFigure 33 = .ok (.iconst 1, 1) := by decide +kernel
theorem dX8_readsFigure_34 : decode cX8_readsFigure 34 = .ok (.bipush 9, 2) := by decide +kernel
theorem dX8_readsFigure_36 : decode cX8_readsFigure 36 = .ok (.invokevirtual 79, 3) := by decide +kernel
theorem dX8_readsFigure_39 : decode cX8_readsFigure 39 = .ok (.ifCond .ne 5, 3) := by decide +kernel
theorem dX8_readsFigure_42 : decode cX8_readsFigure 42 = .ok (.iconst 0, 1) := by decide +kernel
theorem dX8_readsFigure_43 : decode cX8_readsFigure 43 = .ok (.ireturn, 1) := by decide +kernel
theorem dX8_readsFigure_44 : decode cX8_readsFigure 44 = .ok (.aload_n 0, 1) := by decide +kernel
theorem dX8_readsFigure_45 : decode cX8_readsFigure 45 = .ok (.getfield 16, 3) := by decide +kernel
theorem dX8_readsFigure_48 : decode cX8_readsFigure 48 = .ok (.bipush 7, 2) := by decide +kernel
theorem dX8_readsFigure_50 : decode cX8_readsFigure 50 = .ok (.bipush 8, 2) := by decide +kernel
theorem dX8_readsFigure_52 : decode cX8_readsFigure 52 = .ok (.iload_n 2, 1) := by decide +kernel
theorem dX8_readsFigure_53 : decode cX8_readsFigure 53 = .ok (.imul, 1) := by decide +kernel
theorem dX8_readsFigure_54 : decode cX8_readsFigure 54 = .ok (.iadd, 1) := by decide +kernel
theorem dX8_readsFigure_55 : decode cX8_readsFigure 55 = .ok (.aload_n 0, 1) := by decide +kernel
theorem dX8_readsFigure_56 : decode cX8_readsFigure 56 = .ok (.getfield 16, 3) := by decide +kernel
theorem dX8_readsFigure_59 : decode cX8_readsFigure 59 = .ok (.iconst 5, 1) := by decide +kernel
theorem dX8_readsFigure_60 : decode cX8_readsFigure 60 = .ok (.iload_n 2, 1) := by decide +kernel
theorem dX8_readsFigure_61 : decode cX8_readsFigure 61 = .ok (.iadd, 1) := by decide +kernel
theorem dX8_readsFigure_62 : decode cX8_readsFigure 62 = .ok (.iaload, 1) := by decide +kernel
theorem dX8_readsFigure_63 : decode cX8_readsFigure 63 = .ok (.iadd, 1) := by decide +kernel
theorem dX8_readsFigure_64 : decode cX8_readsFigure 64 = .ok (.bipush 10, 2) := by decide +kernel
theorem dX8_readsFigure_66 : decode cX8_readsFigure 66 = .ok (.iload_n 1, 1) := by decide +kernel
theorem dX8_readsFigure_67 : decode cX8_readsFigure 67 = .ok (.imul, 1) := by decide +kernel
theorem dX8_readsFigure_68 : decode cX8_readsFigure 68 = .ok (.aload_n 0, 1) := by decide +kernel
theorem dX8_readsFigure_69 : decode cX8_readsFigure 69 = .ok (.getfield 73, 3) := by decide +kernel
theorem dX8_readsFigure_72 : decode cX8_readsFigure 72 = .ok (.iadd, 1) := by decide +kernel
theorem dX8_readsFigure_73 : decode cX8_readsFigure 73 = .ok (.iastore, 1) := by decide +kernel
theorem dX8_readsFigure_74 : decode cX8_readsFigure 74 = .ok (.aload_n 0, 1) := by decide +kernel
theorem dX8_readsFigure_75 : decode cX8_readsFigure 75 = .ok (.getfield 16, 3) := by decide +kernel
theorem dX8_readsFigure_78 : decode cX8_readsFigure 78 = .ok (.iconst 5, 1) := by decide +kernel
theorem dX8_readsFigure_79 : decode cX8_readsFigure 79 = .ok (.iload_n 2, 1) := by decide +kernel
theorem dX8_readsFigure_80 : decode cX8_readsFigure 80 = .ok (.iadd, 1) := by decide +kernel
theorem dX8_readsFigure_81 : decode cX8_readsFigure 81 = .ok (.dup2, 1) := by decide +kernel
theorem dX8_readsFigure_82 : decode cX8_readsFigure 82 = .ok (.iaload, 1) := by decide +kernel
theorem dX8_readsFigure_83 : decode cX8_readsFigure 83 = .ok (.iconst 1, 1) := by decide +kernel
theorem dX8_readsFigure_84 : decode cX8_readsFigure 84 = .ok (.iadd, 1) := by decide +kernel
theorem dX8_readsFigure_85 : decode cX8_readsFigure 85 = .ok (.iastore, 1) := by decide +kernel
theorem dX8_readsFigure_86 : decode cX8_readsFigure 86 = .ok (.iconst 1, 1) := by decide +kernel
theorem dX8_readsFigure_87 : decode cX8_readsFigure 87 = .ok (.ireturn, 1) := by decide +kernel
theorem dX8_readsRest_0 : decode cX8_readsRest 0 = .ok (.aload_n 0, 1) := by decide +kernel
theorem dX8_readsRest_1 : decode cX8_readsRest 1 = .ok (.iconst 0, 1) := by decide +kernel
theorem dX8_readsRest_2 : decode cX8_readsRest 2 = .ok (.iconst 1, 1) := by decide +kernel
theorem dX8_readsRest_3 : decode cX8_readsRest 3 = .ok (.invokevirtual 79, 3) := by decide +kernel
theorem dX8_readsRest_6 : decode cX8_readsRest 6 = .ok (.ifCond .ne 5, 3) := by decide +kernel
theorem dX8_readsRest_9 : decode cX8_readsRest 9 = .ok (.iconst 0, 1) := by decide +kernel
theorem dX8_readsRest_10 : decode cX8_readsRest 10 = .ok (.ireturn, 1) := by decide +kernel
theorem dX8_readsRest_11 : decode cX8_readsRest 11 = .ok (.aload_n 0, 1) := by decide +kernel
theorem dX8_readsRest_12 : decode cX8_readsRest 12 = .ok (.getfield 16, 3) := by decide +kernel
theorem dX8_readsRest_15 : decode cX8_readsRest 15 = .ok (.iconst 5, 1) := by decide +kernel
theorem dX8_readsRest_16 : decode cX8_readsRest 16 = .ok (.aload_n 0, 1) := by decide +kernel
theorem dX8_readsRest_17 : decode cX8_readsRest 17 = .ok (.getfield 73, 3) := by decide +kernel
theorem dX8_readsRest_20 : decode cX8_readsRest 20 = .ok (.iadd, 1) := by decide +kernel
theorem dX8_readsRest_21 : decode cX8_readsRest 21 = .ok (.iconst 0, 1) := by decide +kernel
theorem dX8_readsRest_22 : decode cX8_readsRest 22 = .ok (.iastore, 1) := by decide +kernel
theorem dX8_readsRest_23 : decode cX8_readsRest 23 = .ok (.iconst 1, 1) := by decide +kernel
theorem dX8_readsRest_24 : decode cX8_readsRest 24 = .ok (.ireturn, 1) := by decide +kernel
theorem dX8_readsClause_0 : decode cX8_readsClause 0 = .ok (.aload_n 0, 1) := by decide +kernel
theorem dX8_readsClause_1 : decode cX8_readsClause 1 = .ok (.bipush 103, 2) := by decide +kernel
theorem dX8_readsClause_3 : decode cX8_readsClause 3 = .ok (.bipush 114, 2) := by decide +kernel
theorem dX8_readsClause_5 : decode cX8_readsClause 5 = .ok (.bipush 111, 2) := by decide +kernel
theorem dX8_readsClause_7 : decode cX8_readsClause 7 = .ok (.bipush 117, 2) := by decide +kernel
theorem dX8_readsClause_9 : decode cX8_readsClause 9 = .ok (.bipush 110, 2) := by decide +kernel
theorem dX8_readsClause_11 : decode cX8_readsClause 11 = .ok (.bipush 100, 2) := by decide +kernel
theorem dX8_readsClause_13 : decode cX8_readsClause 13 = .ok (.invokevirtual 83, 3) := by decide +kernel
theorem dX8_readsClause_16 : decode cX8_readsClause 16 = .ok (.ifCond .eq 8, 3) := by decide +kernel
theorem dX8_readsClause_19 : decode cX8_readsClause 19 = .ok (.aload_n 0, 1) := by decide +kernel
theorem dX8_readsClause_20 : decode cX8_readsClause 20 = .ok (.invokevirtual 87, 3) := by decide +kernel
theorem dX8_readsClause_23 : decode cX8_readsClause 23 = .ok (.ireturn, 1) := by decide +kernel
theorem dX8_readsClause_24 : decode cX8_readsClause 24 = .ok (.aload_n 0, 1) := by decide +kernel
theorem dX8_readsClause_25 : decode cX8_readsClause 25 = .ok (.bipush 115, 2) := by decide +kernel
theorem dX8_readsClause_27 : decode cX8_readsClause 27 = .ok (.bipush 116, 2) := by decide +kernel
theorem dX8_readsClause_29 : decode cX8_readsClause 29 = .ok (.bipush 97, 2) := by decide +kernel
theorem dX8_readsClause_31 : decode cX8_readsClause 31 = .ok (.bipush 110, 2) := by decide +kernel
theorem dX8_readsClause_33 : decode cX8_readsClause 33 = .ok (.bipush 100, 2) := by decide +kernel
theorem dX8_readsClause_35 : decode cX8_readsClause 35 = .ok (.iconst 0, 1) := by decide +kernel
theorem dX8_readsClause_36 : decode cX8_readsClause 36 = .ok (.invokevirtual 83, 3) := by decide +kernel
theorem dX8_readsClause_39 : decode cX8_readsClause 39 = .ok (.ifCond .eq 8, 3) := by decide +kernel
theorem dX8_readsClause_42 : decode cX8_readsClause 42 = .ok (.aload_n 0, 1) := by decide +kernel
theorem dX8_readsClause_43 : decode cX8_readsClause 43 = .ok (.invokevirtual 91, 3) := by decide +kernel
theorem dX8_readsClause_46 : decode cX8_readsClause 46 = .ok (.ireturn, 1) := by decide +kernel
theorem dX8_readsClause_47 : decode cX8_readsClause 47 = .ok (.aload_n 0, 1) := by decide +kernel
theorem dX8_readsClause_48 : decode cX8_readsClause 48 = .ok (.bipush 104, 2) := by decide +kernel
theorem dX8_readsClause_50 : decode cX8_readsClause 50 = .ok (.bipush 111, 2) := by decide +kernel
theorem dX8_readsClause_52 : decode cX8_readsClause 52 = .ok (.bipush 117, 2) := by decide +kernel
theorem dX8_readsClause_54 : decode cX8_readsClause 54 = .ok (.bipush 114, 2) := by decide +kernel
theorem dX8_readsClause_56 : decode cX8_readsClause 56 = .ok (.iconst 0, 1) := by decide +kernel
theorem dX8_readsClause_57 : decode cX8_readsClause 57 = .ok (.iconst 0, 1) := by decide +kernel
theorem dX8_readsClause_58 : decode cX8_readsClause 58 = .ok (.invokevirtual 83, 3) := by decide +kernel
theorem dX8_readsClause_61 : decode cX8_readsClause 61 = .ok (.ifCond .eq 23, 3) := by decide +kernel
theorem dX8_readsClause_64 : decode cX8_readsClause 64 = .ok (.aload_n 0, 1) := by decide +kernel
theorem dX8_readsClause_65 : decode cX8_readsClause 65 = .ok (.iconst 2, 1) := by decide +kernel
theorem dX8_readsClause_66 : decode cX8_readsClause 66 = .ok (.bipush 9, 2) := by decide +kernel
theorem dX8_readsClause_68 : decode cX8_readsClause 68 = .ok (.invokevirtual 79, 3) := by decide +kernel
theorem dX8_readsClause_71 : decode cX8_readsClause 71 = .ok (.istore_n 1, 1) := by decide +kernel
theorem dX8_readsClause_72 : decode cX8_readsClause 72 = .ok (.aload_n 0, 1) := by decide +kernel
theorem dX8_readsClause_73 : decode cX8_readsClause 73 = .ok (.getfield 16, 3) := by decide +kernel
theorem dX8_readsClause_76 : decode cX8_readsClause 76 = .ok (.iconst 2, 1) := by decide +kernel
theorem dX8_readsClause_77 : decode cX8_readsClause 77 = .ok (.aload_n 0, 1) := by decide +kernel
theorem dX8_readsClause_78 : decode cX8_readsClause 78 = .ok (.getfield 73, 3) := by decide +kernel
theorem dX8_readsClause_81 : decode cX8_readsClause 81 = .ok (.iastore, 1) := by decide +kernel
theorem dX8_readsClause_82 : decode cX8_readsClause 82 = .ok (.iload_n 1, 1) := by decide +kernel
theorem dX8_readsClause_83 : decode cX8_readsClause 83 = .ok (.ireturn, 1) := by decide +kernel
theorem dX8_readsClause_84 : decode cX8_readsClause 84 = .ok (.aload_n 0, 1) := by decide +kernel
theorem dX8_readsClause_85 : decode cX8_readsClause 85 = .ok (.bipush 114, 2) := by decide +kernel
theorem dX8_readsClause_87 : decode cX8_readsClause 87 = .ok (.bipush 101, 2) := by decide +kernel
theorem dX8_readsClause_89 : decode cX8_readsClause 89 = .ok (.bipush 115, 2) := by decide +kernel
theorem dX8_readsClause_91 : decode cX8_readsClause 91 = .ok (.bipush 116, 2) := by decide +kernel
theorem dX8_readsClause_93 : decode cX8_readsClause 93 = .ok (.iconst 0, 1) := by decide +kernel
theorem dX8_readsClause_94 : decode cX8_readsClause 94 = .ok (.iconst 0, 1) := by decide +kernel
theorem dX8_readsClause_95 : decode cX8_readsClause 95 = .ok (.invokevirtual 83, 3) := by decide +kernel
theorem dX8_readsClause_98 : decode cX8_readsClause 98 = .ok (.ifCond .eq 8, 3) := by decide +kernel
theorem dX8_readsClause_101 : decode cX8_readsClause 101 = .ok (.aload_n 0, 1) := by decide +kernel
theorem dX8_readsClause_102 : decode cX8_readsClause 102 = .ok (.invokevirtual 94, 3) := by decide +kernel
theorem dX8_readsClause_105 : decode cX8_readsClause 105 = .ok (.ireturn, 1) := by decide +kernel
theorem dX8_readsClause_106 : decode cX8_readsClause 106 = .ok (.aload_n 0, 1) := by decide +kernel
theorem dX8_readsClause_107 : decode cX8_readsClause 107 = .ok (.bipush 109, 2) := by decide +kernel
theorem dX8_readsClause_109 : decode cX8_readsClause 109 = .ok (.bipush 97, 2) := by decide +kernel
theorem dX8_readsClause_111 : decode cX8_readsClause 111 = .ok (.bipush 114, 2) := by decide +kernel
theorem dX8_readsClause_113 : decode cX8_readsClause 113 = .ok (.bipush 99, 2) := by decide +kernel
theorem dX8_readsClause_115 : decode cX8_readsClause 115 = .ok (.bipush 104, 2) := by decide +kernel
theorem dX8_readsClause_117 : decode cX8_readsClause 117 = .ok (.iconst 0, 1) := by decide +kernel
theorem dX8_readsClause_118 : decode cX8_readsClause 118 = .ok (.invokevirtual 83, 3) := by decide +kernel
theorem dX8_readsClause_121 : decode cX8_readsClause 121 = .ok (.ifCond .eq 9, 3) := by decide +kernel
theorem dX8_readsClause_124 : decode cX8_readsClause 124 = .ok (.aload_n 0, 1) := by decide +kernel
theorem dX8_readsClause_125 : decode cX8_readsClause 125 = .ok (.iconst 0, 1) := by decide +kernel
theorem dX8_readsClause_126 : decode cX8_readsClause 126 = .ok (.invokevirtual 97, 3) := by decide +kernel
theorem dX8_readsClause_129 : decode cX8_readsClause 129 = .ok (.ireturn, 1) := by decide +kernel
theorem dX8_readsClause_130 : decode cX8_readsClause 130 = .ok (.aload_n 0, 1) := by decide +kernel
theorem dX8_readsClause_131 : decode cX8_readsClause 131 = .ok (.bipush 98, 2) := by decide +kernel
theorem dX8_readsClause_133 : decode cX8_readsClause 133 = .ok (.bipush 97, 2) := by decide +kernel
theorem dX8_readsClause_135 : decode cX8_readsClause 135 = .ok (.bipush 99, 2) := by decide +kernel
theorem dX8_readsClause_137 : decode cX8_readsClause 137 = .ok (.bipush 107, 2) := by decide +kernel
theorem dX8_readsClause_139 : decode cX8_readsClause 139 = .ok (.iconst 0, 1) := by decide +kernel
theorem dX8_readsClause_140 : decode cX8_readsClause 140 = .ok (.iconst 0, 1) := by decide +kernel
theorem dX8_readsClause_141 : decode cX8_readsClause 141 = .ok (.invokevirtual 83, 3) := by decide +kernel
theorem dX8_readsClause_144 : decode cX8_readsClause 144 = .ok (.ifCond .eq 9, 3) := by decide +kernel
theorem dX8_readsClause_147 : decode cX8_readsClause 147 = .ok (.aload_n 0, 1) := by decide +kernel
theorem dX8_readsClause_148 : decode cX8_readsClause 148 = .ok (.iconst 1, 1) := by decide +kernel
theorem dX8_readsClause_149 : decode cX8_readsClause 149 = .ok (.invokevirtual 97, 3) := by decide +kernel
theorem dX8_readsClause_152 : decode cX8_readsClause 152 = .ok (.ireturn, 1) := by decide +kernel
theorem dX8_readsClause_153 : decode cX8_readsClause 153 = .ok (.aload_n 0, 1) := by decide +kernel
theorem dX8_readsClause_154 : decode cX8_readsClause 154 = .ok (.bipush 100, 2) := by decide +kernel
theorem dX8_readsClause_156 : decode cX8_readsClause 156 = .ok (.bipush 111, 2) := by decide +kernel
theorem dX8_readsClause_158 : decode cX8_readsClause 158 = .ok (.bipush 117, 2) := by decide +kernel
theorem dX8_readsClause_160 : decode cX8_readsClause 160 = .ok (.bipush 98, 2) := by decide +kernel
theorem dX8_readsClause_162 : decode cX8_readsClause 162 = .ok (.bipush 108, 2) := by decide +kernel
theorem dX8_readsClause_164 : decode cX8_readsClause 164 = .ok (.bipush 101, 2) := by decide +kernel
theorem dX8_readsClause_166 : decode cX8_readsClause 166 = .ok (.invokevirtual 83, 3) := by decide +kernel
theorem dX8_readsClause_169 : decode cX8_readsClause 169 = .ok (.ifCond .eq 9, 3) := by decide +kernel
theorem dX8_readsClause_172 : decode cX8_readsClause 172 = .ok (.aload_n 0, 1) := by decide +kernel
theorem dX8_readsClause_173 : decode cX8_readsClause 173 = .ok (.iconst 2, 1) := by decide +kernel
theorem dX8_readsClause_174 : decode cX8_readsClause 174 = .ok (.invokevirtual 97, 3) := by decide +kernel
theorem dX8_readsClause_177 : decode cX8_readsClause 177 = .ok (.ireturn, 1) := by decide +kernel
theorem dX8_readsClause_178 : decode cX8_readsClause 178 = .ok (.aload_n 0, 1) := by decide +kernel
theorem dX8_readsClause_179 : decode cX8_readsClause 179 = .ok (.bipush 116, 2) := by decide +kernel
theorem dX8_readsClause_181 : decode cX8_readsClause 181 = .ok (.bipush 117, 2) := by decide +kernel
theorem dX8_readsClause_183 : decode cX8_readsClause 183 = .ok (.bipush 114, 2) := by decide +kernel
theorem dX8_readsClause_185 : decode cX8_readsClause 185 = .ok (.bipush 110, 2) := by decide +kernel
theorem dX8_readsClause_187 : decode cX8_readsClause 187 = .ok (.iconst 0, 1) := by decide +kernel
theorem dX8_readsClause_188 : decode cX8_readsClause 188 = .ok (.iconst 0, 1) := by decide +kernel
theorem dX8_readsClause_189 : decode cX8_readsClause 189 = .ok (.invokevirtual 83, 3) := by decide +kernel
theorem dX8_readsClause_192 : decode cX8_readsClause 192 = .ok (.ifCond .eq 9, 3) := by decide +kernel
theorem dX8_readsClause_195 : decode cX8_readsClause 195 = .ok (.aload_n 0, 1) := by decide +kernel
theorem dX8_readsClause_196 : decode cX8_readsClause 196 = .ok (.iconst 3, 1) := by decide +kernel
theorem dX8_readsClause_197 : decode cX8_readsClause 197 = .ok (.invokevirtual 97, 3) := by decide +kernel
theorem dX8_readsClause_200 : decode cX8_readsClause 200 = .ok (.ireturn, 1) := by decide +kernel
theorem dX8_readsClause_201 : decode cX8_readsClause 201 = .ok (.aload_n 0, 1) := by decide +kernel
theorem dX8_readsClause_202 : decode cX8_readsClause 202 = .ok (.bipush 107, 2) := by decide +kernel
theorem dX8_readsClause_204 : decode cX8_readsClause 204 = .ok (.bipush 110, 2) := by decide +kernel
theorem dX8_readsClause_206 : decode cX8_readsClause 206 = .ok (.bipush 101, 2) := by decide +kernel
theorem dX8_readsClause_208 : decode cX8_readsClause 208 = .ok (.bipush 101, 2) := by decide +kernel
theorem dX8_readsClause_210 : decode cX8_readsClause 210 = .ok (.bipush 108, 2) := by decide +kernel
theorem dX8_readsClause_212 : decode cX8_readsClause 212 = .ok (.iconst 0, 1) := by decide +kernel
theorem dX8_readsClause_213 : decode cX8_readsClause 213 = .ok (.invokevirtual 83, 3) := by decide +kernel
theorem dX8_readsClause_216 : decode cX8_readsClause 216 = .ok (.ifCond .eq 15, 3) := by decide +kernel
theorem dX8_readsClause_219 : decode cX8_readsClause 219 = .ok (.aload_n 0, 1) := by decide +kernel
theorem dX8_readsClause_220 : decode cX8_readsClause 220 = .ok (.iconst 4, 1) := by decide +kernel
theorem dX8_readsClause_221 : decode cX8_readsClause 221 = .ok (.invokevirtual 97, 3) := by decide +kernel
theorem dX8_readsClause_224 : decode cX8_readsClause 224 = .ok (.ifCond .eq 7, 3) := by decide +kernel
theorem dX8_readsClause_227 : decode cX8_readsClause 227 = .ok (.iconst 1, 1) := by decide +kernel
theorem dX8_readsClause_228 : decode cX8_readsClause 228 = .ok (.goto 4, 3) := by decide +kernel
theorem dX8_readsClause_231 : decode cX8_readsClause 231 = .ok (.iconst 0, 1) := by decide +kernel
theorem dX8_readsClause_232 : decode cX8_readsClause 232 = .ok (.ireturn, 1) := by decide +kernel
theorem dX8_reads_0 : decode cX8_reads 0 = .ok (.iconst 0, 1) := by decide +kernel
theorem dX8_reads_1 : decode cX8_reads 1 = .ok (.istore_n 1, 1) := by decide +kernel
theorem dX8_reads_2 : decode cX8_reads 2 = .ok (.iload_n 1, 1) := by decide +kernel
theorem dX8_reads_3 : decode cX8_reads 3 = .ok (.bipush 23, 2) := by decide +kernel
theorem dX8_reads_5 : decode cX8_reads 5 = .ok (.if_icmp .ge 21, 3) := by decide +kernel
theorem dX8_reads_8 : decode cX8_reads 8 = .ok (.aload_n 0, 1) := by decide +kernel
theorem dX8_reads_9 : decode cX8_reads 9 = .ok (.getfield 16, 3) := by decide +kernel
theorem dX8_reads_12 : decode cX8_reads 12 = .ok (.iload_n 1, 1) := by decide +kernel
theorem dX8_reads_13 : decode cX8_reads 13 = .ok (.aload_n 0, 1) := by decide +kernel
theorem dX8_reads_14 : decode cX8_reads 14 = .ok (.getfield 13, 3) := by decide +kernel
theorem dX8_reads_17 : decode cX8_reads 17 = .ok (.iload_n 1, 1) := by decide +kernel
theorem dX8_reads_18 : decode cX8_reads 18 = .ok (.iaload, 1) := by decide +kernel
theorem dX8_reads_19 : decode cX8_reads 19 = .ok (.iastore, 1) := by decide +kernel
theorem dX8_reads_20 : decode cX8_reads 20 = .ok (.iinc 1 1, 3) := by decide +kernel
theorem dX8_reads_23 : decode cX8_reads 23 = .ok (.goto (-21), 3) := by decide +kernel
theorem dX8_reads_26 : decode cX8_reads 26 = .ok (.aload_n 0, 1) := by decide +kernel
theorem dX8_reads_27 : decode cX8_reads 27 = .ok (.iconst 0, 1) := by decide +kernel
theorem dX8_reads_28 : decode cX8_reads 28 = .ok (.putfield 53, 3) := by decide +kernel
theorem dX8_reads_31 : decode cX8_reads 31 = .ok (.iconst 0, 1) := by decide +kernel
theorem dX8_reads_32 : decode cX8_reads 32 = .ok (.istore_n 1, 1) := by decide +kernel
theorem dX8_reads_33 : decode cX8_reads 33 = .ok (.iconst 1, 1) := by decide +kernel
theorem dX8_reads_34 : decode cX8_reads 34 = .ok (.istore_n 2, 1) := by decide +kernel
theorem dX8_reads_35 : decode cX8_reads 35 = .ok (.iload_n 2, 1) := by decide +kernel
theorem dX8_reads_36 : decode cX8_reads 36 = .ok (.ifCond .eq 70, 3) := by decide +kernel
theorem dX8_reads_39 : decode cX8_reads 39 = .ok (.aload_n 0, 1) := by decide +kernel
theorem dX8_reads_40 : decode cX8_reads 40 = .ok (.invokevirtual 76, 3) := by decide +kernel
theorem dX8_reads_43 : decode cX8_reads 43 = .ok (.aload_n 0, 1) := by decide +kernel
theorem dX8_reads_44 : decode cX8_reads 44 = .ok (.invokevirtual 100, 3) := by decide +kernel
theorem dX8_reads_47 : decode cX8_reads 47 = .ok (.ifCond .ne 5, 3) := by decide +kernel
theorem dX8_reads_50 : decode cX8_reads 50 = .ok (.iconst (-1), 1) := by decide +kernel
theorem dX8_reads_51 : decode cX8_reads 51 = .ok (.ireturn, 1) := by decide +kernel
theorem dX8_reads_52 : decode cX8_reads 52 = .ok (.iinc 1 1, 3) := by decide +kernel
theorem dX8_reads_55 : decode cX8_reads 55 = .ok (.aload_n 0, 1) := by decide +kernel
theorem dX8_reads_56 : decode cX8_reads 56 = .ok (.invokevirtual 76, 3) := by decide +kernel
theorem dX8_reads_59 : decode cX8_reads 59 = .ok (.aload_n 0, 1) := by decide +kernel
theorem dX8_reads_60 : decode cX8_reads 60 = .ok (.getfield 70, 3) := by decide +kernel
theorem dX8_reads_63 : decode cX8_reads 63 = .ok (.ifCond .eq 7, 3) := by decide +kernel
theorem dX8_reads_66 : decode cX8_reads 66 = .ok (.iconst 1, 1) := by decide +kernel
theorem dX8_reads_67 : decode cX8_reads 67 = .ok (.goto 4, 3) := by decide +kernel
theorem dX8_reads_70 : decode cX8_reads 70 = .ok (.iconst 0, 1) := by decide +kernel
theorem dX8_reads_71 : decode cX8_reads 71 = .ok (.istore_n 2, 1) := by decide +kernel
theorem dX8_reads_72 : decode cX8_reads 72 = .ok (.iload_n 2, 1) := by decide +kernel
theorem dX8_reads_73 : decode cX8_reads 73 = .ok (.ifCond .eq (-38), 3) := by decide +kernel
theorem dX8_reads_76 : decode cX8_reads 76 = .ok (.aload_n 0, 1) := by decide +kernel
theorem dX8_reads_77 : decode cX8_reads 77 = .ok (.getfield 70, 3) := by decide +kernel
theorem dX8_reads_80 : decode cX8_reads 80 = .ok (.iconst 3, 1) := by decide +kernel
theorem dX8_reads_81 : decode cX8_reads 81 = .ok (.if_icmp .ne 23, 3) := by decide +kernel
theorem dX8_reads_84 : decode cX8_reads 84 = .ok (.aload_n 0, 1) := by decide +kernel
theorem dX8_reads_85 : decode cX8_reads 85 = .ok (.getfield 7, 3) := by decide +kernel
theorem dX8_reads_88 : decode cX8_reads 88 = .ok (.aload_n 0, 1) := by decide +kernel
theorem dX8_reads_89 : decode cX8_reads 89 = .ok (.getfield 60, 3) := by decide +kernel
theorem dX8_reads_92 : decode cX8_reads 92 = .ok (.iaload, 1) := by decide +kernel
theorem dX8_reads_93 : decode cX8_reads 93 = .ok (.bipush 59, 2) := by decide +kernel
theorem dX8_reads_95 : decode cX8_reads 95 = .ok (.if_icmp .ne 9, 3) := by decide +kernel
theorem dX8_reads_98 : decode cX8_reads 98 = .ok (.iload_n 1, 1) := by decide +kernel
theorem dX8_reads_99 : decode cX8_reads 99 = .ok (.bipush 14, 2) := by decide +kernel
theorem dX8_reads_101 : decode cX8_reads 101 = .ok (.if_icmp .ne (-66), 3) := by decide +kernel
theorem dX8_reads_104 : decode cX8_reads 104 = .ok (.iconst (-1), 1) := by decide +kernel
theorem dX8_reads_105 : decode cX8_reads 105 = .ok (.ireturn, 1) := by decide +kernel
theorem dX8_reads_106 : decode cX8_reads 106 = .ok (.iload_n 1, 1) := by decide +kernel
theorem dX8_reads_107 : decode cX8_reads 107 = .ok (.ireturn, 1) := by decide +kernel
theorem dX8_lays_0 : decode cX8_lays 0 = .ok (.iconst 0, 1) := by decide +kernel
theorem dX8_lays_1 : decode cX8_lays 1 = .ok (.istore_n 1, 1) := by decide +kernel
theorem dX8_lays_2 : decode cX8_lays 2 = .ok (.iload_n 1, 1) := by decide +kernel
theorem dX8_lays_3 : decode cX8_lays 3 = .ok (.bipush 66, 2) := by decide +kernel
theorem dX8_lays_5 : decode cX8_lays 5 = .ok (.if_icmp .ge 16, 3) := by decide +kernel
theorem dX8_lays_8 : decode cX8_lays 8 = .ok (.aload_n 0, 1) := by decide +kernel
theorem dX8_lays_9 : decode cX8_lays 9 = .ok (.getfield 19, 3) := by decide +kernel
theorem dX8_lays_12 : decode cX8_lays 12 = .ok (.iload_n 1, 1) := by decide +kernel
theorem dX8_lays_13 : decode cX8_lays 13 = .ok (.iconst 0, 1) := by decide +kernel
theorem dX8_lays_14 : decode cX8_lays 14 = .ok (.iastore, 1) := by decide +kernel
theorem dX8_lays_15 : decode cX8_lays 15 = .ok (.iinc 1 1, 3) := by decide +kernel
theorem dX8_lays_18 : decode cX8_lays 18 = .ok (.goto (-16), 3) := by decide +kernel
theorem dX8_lays_21 : decode cX8_lays 21 = .ok (.aload_n 0, 1) := by decide +kernel
theorem dX8_lays_22 : decode cX8_lays 22 = .ok (.getfield 19, 3) := by decide +kernel
theorem dX8_lays_25 : decode cX8_lays 25 = .ok (.iconst 2, 1) := by decide +kernel
theorem dX8_lays_26 : decode cX8_lays 26 = .ok (.aload_n 0, 1) := by decide +kernel
theorem dX8_lays_27 : decode cX8_lays 27 = .ok (.getfield 13, 3) := by decide +kernel
theorem dX8_lays_30 : decode cX8_lays 30 = .ok (.iconst 3, 1) := by decide +kernel
theorem dX8_lays_31 : decode cX8_lays 31 = .ok (.iaload, 1) := by decide +kernel
theorem dX8_lays_32 : decode cX8_lays 32 = .ok (.iastore, 1) := by decide +kernel
theorem dX8_lays_33 : decode cX8_lays 33 = .ok (.aload_n 0, 1) := by decide +kernel
theorem dX8_lays_34 : decode cX8_lays 34 = .ok (.getfield 19, 3) := by decide +kernel
theorem dX8_lays_37 : decode cX8_lays 37 = .ok (.iconst 3, 1) := by decide +kernel
