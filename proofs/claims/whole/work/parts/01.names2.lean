theorem dX0_init_0 : decode cX0_init 0 = .ok (.aload_n 0, 1) := by decide +kernel
theorem dX0_init_1 : decode cX0_init 1 = .ok (.invokespecial 3, 3) := by decide +kernel
theorem dX0_init_4 : decode cX0_init 4 = .ok (.aload_n 0, 1) := by decide +kernel
theorem dX0_init_5 : decode cX0_init 5 = .ok (.bipush 36, 2) := by decide +kernel
theorem dX0_init_7 : decode cX0_init 7 = .ok (.newarray .int, 2) := by decide +kernel
theorem dX0_init_9 : decode cX0_init 9 = .ok (.putfield 9, 3) := by decide +kernel
theorem dX0_init_12 : decode cX0_init 12 = .ok (.aload_n 0, 1) := by decide +kernel
theorem dX0_init_13 : decode cX0_init 13 = .ok (.getstatic 15, 3) := by decide +kernel
theorem dX0_init_16 : decode cX0_init 16 = .ok (.arraylength, 1) := by decide +kernel
theorem dX0_init_17 : decode cX0_init 17 = .ok (.newarray .int, 2) := by decide +kernel
theorem dX0_init_19 : decode cX0_init 19 = .ok (.putfield 18, 3) := by decide +kernel
theorem dX0_init_22 : decode cX0_init 22 = .ok (.aload_n 0, 1) := by decide +kernel
theorem dX0_init_23 : decode cX0_init 23 = .ok (.iconst 2, 1) := by decide +kernel
theorem dX0_init_24 : decode cX0_init 24 = .ok (.newarray .int, 2) := by decide +kernel
theorem dX0_init_26 : decode cX0_init 26 = .ok (.putfield 21, 3) := by decide +kernel
theorem dX0_init_29 : decode cX0_init 29 = .ok (.aload_n 0, 1) := by decide +kernel
theorem dX0_init_30 : decode cX0_init 30 = .ok (.iconst 2, 1) := by decide +kernel
theorem dX0_init_31 : decode cX0_init 31 = .ok (.anewarray 24, 3) := by decide +kernel
theorem dX0_init_34 : decode cX0_init 34 = .ok (.dup, 1) := by decide +kernel
theorem dX0_init_35 : decode cX0_init 35 = .ok (.iconst 0, 1) := by decide +kernel
theorem dX0_init_36 : decode cX0_init 36 = .ok (.new 24, 3) := by decide +kernel
theorem dX0_init_39 : decode cX0_init 39 = .ok (.dup, 1) := by decide +kernel
theorem dX0_init_40 : decode cX0_init 40 = .ok (.invokespecial 26, 3) := by decide +kernel
theorem dX0_init_43 : decode cX0_init 43 = .ok (.aastore, 1) := by decide +kernel
theorem dX0_init_44 : decode cX0_init 44 = .ok (.dup, 1) := by decide +kernel
theorem dX0_init_45 : decode cX0_init 45 = .ok (.iconst 1, 1) := by decide +kernel
theorem dX0_init_46 : decode cX0_init 46 = .ok (.new 24, 3) := by decide +kernel
theorem dX0_init_49 : decode cX0_init 49 = .ok (.dup, 1) := by decide +kernel
theorem dX0_init_50 : decode cX0_init 50 = .ok (.invokespecial 26, 3) := by decide +kernel
theorem dX0_init_53 : decode cX0_init 53 = .ok (.aastore, 1) := by decide +kernel
theorem dX0_init_54 : decode cX0_init 54 = .ok (.putfield 27, 3) := by decide +kernel
theorem dX0_init_57 : decode cX0_init 57 = .ok (.return_, 1) := by decide +kernel
theorem dX0_startAsTold_0 : decode cX0_startAsTold 0 = .ok (.aload_n 0, 1) := by decide +kernel
theorem dX0_startAsTold_1 : decode cX0_startAsTold 1 = .ok (.aload_n 1, 1) := by decide +kernel
theorem dX0_startAsTold_2 : decode cX0_startAsTold 2 = .ok (.getfield 31, 3) := by decide +kernel
theorem dX0_startAsTold_5 : decode cX0_startAsTold 5 = .ok (.putfield 37, 3) := by decide +kernel
theorem dX0_startAsTold_8 : decode cX0_startAsTold 8 = .ok (.aload_n 0, 1) := by decide +kernel
theorem dX0_startAsTold_9 : decode cX0_startAsTold 9 = .ok (.aload_n 1, 1) := by decide +kernel
theorem dX0_startAsTold_10 : decode cX0_startAsTold 10 = .ok (.getfield 38, 3) := by decide +kernel
theorem dX0_startAsTold_13 : decode cX0_startAsTold 13 = .ok (.putfield 41, 3) := by decide +kernel
theorem dX0_startAsTold_16 : decode cX0_startAsTold 16 = .ok (.aload_n 0, 1) := by decide +kernel
theorem dX0_startAsTold_17 : decode cX0_startAsTold 17 = .ok (.aload_n 1, 1) := by decide +kernel
theorem dX0_startAsTold_18 : decode cX0_startAsTold 18 = .ok (.getfield 42, 3) := by decide +kernel
theorem dX0_startAsTold_21 : decode cX0_startAsTold 21 = .ok (.putfield 45, 3) := by decide +kernel
theorem dX0_startAsTold_24 : decode cX0_startAsTold 24 = .ok (.aload_n 0, 1) := by decide +kernel
theorem dX0_startAsTold_25 : decode cX0_startAsTold 25 = .ok (.iconst 0, 1) := by decide +kernel
theorem dX0_startAsTold_26 : decode cX0_startAsTold 26 = .ok (.putfield 46, 3) := by decide +kernel
theorem dX0_startAsTold_29 : decode cX0_startAsTold 29 = .ok (.aload_n 0, 1) := by decide +kernel
theorem dX0_startAsTold_30 : decode cX0_startAsTold 30 = .ok (.iconst 0, 1) := by decide +kernel
theorem dX0_startAsTold_31 : decode cX0_startAsTold 31 = .ok (.putfield 49, 3) := by decide +kernel
theorem dX0_startAsTold_34 : decode cX0_startAsTold 34 = .ok (.aload_n 0, 1) := by decide +kernel
theorem dX0_startAsTold_35 : decode cX0_startAsTold 35 = .ok (.aload_n 0, 1) := by decide +kernel
theorem dX0_startAsTold_36 : decode cX0_startAsTold 36 = .ok (.getfield 37, 3) := by decide +kernel
theorem dX0_startAsTold_39 : decode cX0_startAsTold 39 = .ok (.ifCond .le 15, 3) := by decide +kernel
theorem dX0_startAsTold_42 : decode cX0_startAsTold 42 = .ok (.aload_n 1, 1) := by decide +kernel
theorem dX0_startAsTold_43 : decode cX0_startAsTold 43 = .ok (.getfield 52, 3) := by decide +kernel
theorem dX0_startAsTold_46 : decode cX0_startAsTold 46 = .ok (.aload_n 0, 1) := by decide +kernel
theorem dX0_startAsTold_47 : decode cX0_startAsTold 47 = .ok (.getfield 37, 3) := by decide +kernel
theorem dX0_startAsTold_50 : decode cX0_startAsTold 50 = .ok (.idiv, 1) := by decide +kernel
theorem dX0_startAsTold_51 : decode cX0_startAsTold 51 = .ok (.goto 4, 3) := by decide +kernel
theorem dX0_startAsTold_54 : decode cX0_startAsTold 54 = .ok (.iconst 0, 1) := by decide +kernel
theorem dX0_startAsTold_55 : decode cX0_startAsTold 55 = .ok (.putfield 55, 3) := by decide +kernel
theorem dX0_startAsTold_58 : decode cX0_startAsTold 58 = .ok (.aload_n 0, 1) := by decide +kernel
theorem dX0_startAsTold_59 : decode cX0_startAsTold 59 = .ok (.aload_n 1, 1) := by decide +kernel
theorem dX0_startAsTold_60 : decode cX0_startAsTold 60 = .ok (.getfield 52, 3) := by decide +kernel
theorem dX0_startAsTold_63 : decode cX0_startAsTold 63 = .ok (.aload_n 0, 1) := by decide +kernel
theorem dX0_startAsTold_64 : decode cX0_startAsTold 64 = .ok (.getfield 55, 3) := by decide +kernel
theorem dX0_startAsTold_67 : decode cX0_startAsTold 67 = .ok (.aload_n 0, 1) := by decide +kernel
theorem dX0_startAsTold_68 : decode cX0_startAsTold 68 = .ok (.getfield 37, 3) := by decide +kernel
theorem dX0_startAsTold_71 : decode cX0_startAsTold 71 = .ok (.imul, 1) := by decide +kernel
theorem dX0_startAsTold_72 : decode cX0_startAsTold 72 = .ok (.isub, 1) := by decide +kernel
theorem dX0_startAsTold_73 : decode cX0_startAsTold 73 = .ok (.putfield 58, 3) := by decide +kernel
theorem dX0_startAsTold_76 : decode cX0_startAsTold 76 = .ok (.aload_n 0, 1) := by decide +kernel
theorem dX0_startAsTold_77 : decode cX0_startAsTold 77 = .ok (.aload_n 1, 1) := by decide +kernel
theorem dX0_startAsTold_78 : decode cX0_startAsTold 78 = .ok (.getfield 61, 3) := by decide +kernel
theorem dX0_startAsTold_81 : decode cX0_startAsTold 81 = .ok (.putfield 64, 3) := by decide +kernel
theorem dX0_startAsTold_84 : decode cX0_startAsTold 84 = .ok (.aload_n 0, 1) := by decide +kernel
theorem dX0_startAsTold_85 : decode cX0_startAsTold 85 = .ok (.iconst (-1), 1) := by decide +kernel
theorem dX0_startAsTold_86 : decode cX0_startAsTold 86 = .ok (.putfield 65, 3) := by decide +kernel
theorem dX0_startAsTold_89 : decode cX0_startAsTold 89 = .ok (.aload_n 0, 1) := by decide +kernel
theorem dX0_startAsTold_90 : decode cX0_startAsTold 90 = .ok (.iconst 0, 1) := by decide +kernel
theorem dX0_startAsTold_91 : decode cX0_startAsTold 91 = .ok (.putfield 68, 3) := by decide +kernel
theorem dX0_startAsTold_94 : decode cX0_startAsTold 94 = .ok (.aload_n 0, 1) := by decide +kernel
theorem dX0_startAsTold_95 : decode cX0_startAsTold 95 = .ok (.getfield 9, 3) := by decide +kernel
theorem dX0_startAsTold_98 : decode cX0_startAsTold 98 = .ok (.invokestatic 71, 3) := by decide +kernel
theorem dX0_startAsTold_101 : decode cX0_startAsTold 101 = .ok (.aload_n 0, 1) := by decide +kernel
theorem dX0_startAsTold_102 : decode cX0_startAsTold 102 = .ok (.getfield 18, 3) := by decide +kernel
theorem dX0_startAsTold_105 : decode cX0_startAsTold 105 = .ok (.invokestatic 71, 3) := by decide +kernel
theorem dX0_startAsTold_108 : decode cX0_startAsTold 108 = .ok (.aload_n 0, 1) := by decide +kernel
theorem dX0_startAsTold_109 : decode cX0_startAsTold 109 = .ok (.getfield 21, 3) := by decide +kernel
theorem dX0_startAsTold_112 : decode cX0_startAsTold 112 = .ok (.invokestatic 71, 3) := by decide +kernel
theorem dX0_startAsTold_115 : decode cX0_startAsTold 115 = .ok (.iconst 0, 1) := by decide +kernel
theorem dX0_startAsTold_116 : decode cX0_startAsTold 116 = .ok (.istore_n 2, 1) := by decide +kernel
theorem dX0_startAsTold_117 : decode cX0_startAsTold 117 = .ok (.iload_n 2, 1) := by decide +kernel
theorem dX0_startAsTold_118 : decode cX0_startAsTold 118 = .ok (.iconst 2, 1) := by decide +kernel
theorem dX0_startAsTold_119 : decode cX0_startAsTold 119 = .ok (.if_icmp .ge 24, 3) := by decide +kernel
theorem dX0_startAsTold_122 : decode cX0_startAsTold 122 = .ok (.aload_n 0, 1) := by decide +kernel
theorem dX0_startAsTold_123 : decode cX0_startAsTold 123 = .ok (.getfield 27, 3) := by decide +kernel
theorem dX0_startAsTold_126 : decode cX0_startAsTold 126 = .ok (.iload_n 2, 1) := by decide +kernel
theorem dX0_startAsTold_127 : decode cX0_startAsTold 127 = .ok (.aaload, 1) := by decide +kernel
theorem dX0_startAsTold_128 : decode cX0_startAsTold 128 = .ok (.aload_n 1, 1) := by decide +kernel
theorem dX0_startAsTold_129 : decode cX0_startAsTold 129 = .ok (.getfield 75, 3) := by decide +kernel
theorem dX0_startAsTold_132 : decode cX0_startAsTold 132 = .ok (.iload_n 2, 1) := by decide +kernel
theorem dX0_startAsTold_133 : decode cX0_startAsTold 133 = .ok (.aaload, 1) := by decide +kernel
theorem dX0_startAsTold_134 : decode cX0_startAsTold 134 = .ok (.invokevirtual 76, 3) := by decide +kernel
theorem dX0_startAsTold_137 : decode cX0_startAsTold 137 = .ok (.iinc 2 1, 3) := by decide +kernel
theorem dX0_startAsTold_140 : decode cX0_startAsTold 140 = .ok (.goto (-23), 3) := by decide +kernel
theorem dX0_startAsTold_143 : decode cX0_startAsTold 143 = .ok (.return_, 1) := by decide +kernel
theorem dX0_copyFrom_0 : decode cX0_copyFrom 0 = .ok (.aload_n 0, 1) := by decide +kernel
theorem dX0_copyFrom_1 : decode cX0_copyFrom 1 = .ok (.aload_n 1, 1) := by decide +kernel
theorem dX0_copyFrom_2 : decode cX0_copyFrom 2 = .ok (.getfield 37, 3) := by decide +kernel
theorem dX0_copyFrom_5 : decode cX0_copyFrom 5 = .ok (.putfield 37, 3) := by decide +kernel
theorem dX0_copyFrom_8 : decode cX0_copyFrom 8 = .ok (.aload_n 0, 1) := by decide +kernel
theorem dX0_copyFrom_9 : decode cX0_copyFrom 9 = .ok (.aload_n 1, 1) := by decide +kernel
theorem dX0_copyFrom_10 : decode cX0_copyFrom 10 = .ok (.getfield 41, 3) := by decide +kernel
theorem dX0_copyFrom_13 : decode cX0_copyFrom 13 = .ok (.putfield 41, 3) := by decide +kernel
theorem dX0_copyFrom_16 : decode cX0_copyFrom 16 = .ok (.aload_n 0, 1) := by decide +kernel
theorem dX0_copyFrom_17 : decode cX0_copyFrom 17 = .ok (.aload_n 1, 1) := by decide +kernel
theorem dX0_copyFrom_18 : decode cX0_copyFrom 18 = .ok (.getfield 45, 3) := by decide +kernel
theorem dX0_copyFrom_21 : decode cX0_copyFrom 21 = .ok (.putfield 45, 3) := by decide +kernel
theorem dX0_copyFrom_24 : decode cX0_copyFrom 24 = .ok (.aload_n 0, 1) := by decide +kernel
theorem dX0_copyFrom_25 : decode cX0_copyFrom 25 = .ok (.aload_n 1, 1) := by decide +kernel
theorem dX0_copyFrom_26 : decode cX0_copyFrom 26 = .ok (.getfield 46, 3) := by decide +kernel
theorem dX0_copyFrom_29 : decode cX0_copyFrom 29 = .ok (.putfield 46, 3) := by decide +kernel
theorem dX0_copyFrom_32 : decode cX0_copyFrom 32 = .ok (.aload_n 0, 1) := by decide +kernel
theorem dX0_copyFrom_33 : decode cX0_copyFrom 33 = .ok (.aload_n 1, 1) := by decide +kernel
theorem dX0_copyFrom_34 : decode cX0_copyFrom 34 = .ok (.getfield 49, 3) := by decide +kernel
theorem dX0_copyFrom_37 : decode cX0_copyFrom 37 = .ok (.putfield 49, 3) := by decide +kernel
theorem dX0_copyFrom_40 : decode cX0_copyFrom 40 = .ok (.aload_n 0, 1) := by decide +kernel
theorem dX0_copyFrom_41 : decode cX0_copyFrom 41 = .ok (.aload_n 1, 1) := by decide +kernel
theorem dX0_copyFrom_42 : decode cX0_copyFrom 42 = .ok (.getfield 55, 3) := by decide +kernel
theorem dX0_copyFrom_45 : decode cX0_copyFrom 45 = .ok (.putfield 55, 3) := by decide +kernel
theorem dX0_copyFrom_48 : decode cX0_copyFrom 48 = .ok (.aload_n 0, 1) := by decide +kernel
theorem dX0_copyFrom_49 : decode cX0_copyFrom 49 = .ok (.aload_n 1, 1) := by decide +kernel
theorem dX0_copyFrom_50 : decode cX0_copyFrom 50 = .ok (.getfield 58, 3) := by decide +kernel
theorem dX0_copyFrom_53 : decode cX0_copyFrom 53 = .ok (.putfield 58, 3) := by decide +kernel
theorem dX0_copyFrom_56 : decode cX0_copyFrom 56 = .ok (.aload_n 0, 1) := by decide +kernel
theorem dX0_copyFrom_57 : decode cX0_copyFrom 57 = .ok (.aload_n 1, 1) := by decide +kernel
theorem dX0_copyFrom_58 : decode cX0_copyFrom 58 = .ok (.getfield 64, 3) := by decide +kernel
theorem dX0_copyFrom_61 : decode cX0_copyFrom 61 = .ok (.putfield 64, 3) := by decide +kernel
theorem dX0_copyFrom_64 : decode cX0_copyFrom 64 = .ok (.aload_n 0, 1) := by decide +kernel
theorem dX0_copyFrom_65 : decode cX0_copyFrom 65 = .ok (.aload_n 1, 1) := by decide +kernel
theorem dX0_copyFrom_66 : decode cX0_copyFrom 66 = .ok (.getfield 65, 3) := by decide +kernel
theorem dX0_copyFrom_69 : decode cX0_copyFrom 69 = .ok (.putfield 65, 3) := by decide +kernel
theorem dX0_copyFrom_72 : decode cX0_copyFrom 72 = .ok (.aload_n 0, 1) := by decide +kernel
theorem dX0_copyFrom_73 : decode cX0_copyFrom 73 = .ok (.aload_n 1, 1) := by decide +kernel
theorem dX0_copyFrom_74 : decode cX0_copyFrom 74 = .ok (.getfield 68, 3) := by decide +kernel
theorem dX0_copyFrom_77 : decode cX0_copyFrom 77 = .ok (.putfield 68, 3) := by decide +kernel
theorem dX0_copyFrom_80 : decode cX0_copyFrom 80 = .ok (.aload_n 1, 1) := by decide +kernel
theorem dX0_copyFrom_81 : decode cX0_copyFrom 81 = .ok (.getfield 9, 3) := by decide +kernel
theorem dX0_copyFrom_84 : decode cX0_copyFrom 84 = .ok (.iconst 0, 1) := by decide +kernel
theorem dX0_copyFrom_85 : decode cX0_copyFrom 85 = .ok (.aload_n 0, 1) := by decide +kernel
theorem dX0_copyFrom_86 : decode cX0_copyFrom 86 = .ok (.getfield 9, 3) := by decide +kernel
theorem dX0_copyFrom_89 : decode cX0_copyFrom 89 = .ok (.iconst 0, 1) := by decide +kernel
theorem dX0_copyFrom_90 : decode cX0_copyFrom 90 = .ok (.aload_n 0, 1) := by decide +kernel
theorem dX0_copyFrom_91 : decode cX0_copyFrom 91 = .ok (.getfield 9, 3) := by decide +kernel
theorem dX0_copyFrom_94 : decode cX0_copyFrom 94 = .ok (.arraylength, 1) := by decide +kernel
theorem dX0_copyFrom_95 : decode cX0_copyFrom 95 = .ok (.invokestatic 80, 3) := by decide +kernel
theorem dX0_copyFrom_98 : decode cX0_copyFrom 98 = .ok (.aload_n 1, 1) := by decide +kernel
theorem dX0_copyFrom_99 : decode cX0_copyFrom 99 = .ok (.getfield 18, 3) := by decide +kernel
theorem dX0_copyFrom_102 : decode cX0_copyFrom 102 = .ok (.iconst 0, 1) := by decide +kernel
theorem dX0_copyFrom_103 : decode cX0_copyFrom 103 = .ok (.aload_n 0, 1) := by decide +kernel
theorem dX0_copyFrom_104 : decode cX0_copyFrom 104 = .ok (.getfield 18, 3) := by decide +kernel
theorem dX0_copyFrom_107 : decode cX0_copyFrom 107 = .ok (.iconst 0, 1) := by decide +kernel
theorem dX0_copyFrom_108 : decode cX0_copyFrom 108 = .ok (.aload_n 0, 1) := by decide +kernel
theorem dX0_copyFrom_109 : decode cX0_copyFrom 109 = .ok (.getfield 18, 3) := by decide +kernel
theorem dX0_copyFrom_112 : decode cX0_copyFrom 112 = .ok (.arraylength, 1) := by decide +kernel
theorem dX0_copyFrom_113 : decode cX0_copyFrom 113 = .ok (.invokestatic 80, 3) := by decide +kernel
theorem dX0_copyFrom_116 : decode cX0_copyFrom 116 = .ok (.aload_n 1, 1) := by decide +kernel
theorem dX0_copyFrom_117 : decode cX0_copyFrom 117 = .ok (.getfield 21, 3) := by decide +kernel
theorem dX0_copyFrom_120 : decode cX0_copyFrom 120 = .ok (.iconst 0, 1) := by decide +kernel
theorem dX0_copyFrom_121 : decode cX0_copyFrom 121 = .ok (.aload_n 0, 1) := by decide +kernel
theorem dX0_copyFrom_122 : decode cX0_copyFrom 122 = .ok (.getfield 21, 3) := by decide +kernel
theorem dX0_copyFrom_125 : decode cX0_copyFrom 125 = .ok (.iconst 0, 1) := by decide +kernel
theorem dX0_copyFrom_126 : decode cX0_copyFrom 126 = .ok (.aload_n 0, 1) := by decide +kernel
theorem dX0_copyFrom_127 : decode cX0_copyFrom 127 = .ok (.getfield 21, 3) := by decide +kernel
theorem dX0_copyFrom_130 : decode cX0_copyFrom 130 = .ok (.arraylength, 1) := by decide +kernel
theorem dX0_copyFrom_131 : decode cX0_copyFrom 131 = .ok (.invokestatic 80, 3) := by decide +kernel
theorem dX0_copyFrom_134 : decode cX0_copyFrom 134 = .ok (.iconst 0, 1) := by decide +kernel
theorem dX0_copyFrom_135 : decode cX0_copyFrom 135 = .ok (.istore_n 2, 1) := by decide +kernel
theorem dX0_copyFrom_136 : decode cX0_copyFrom 136 = .ok (.iload_n 2, 1) := by decide +kernel
theorem dX0_copyFrom_137 : decode cX0_copyFrom 137 = .ok (.iconst 2, 1) := by decide +kernel
theorem dX0_copyFrom_138 : decode cX0_copyFrom 138 = .ok (.if_icmp .ge 24, 3) := by decide +kernel
theorem dX0_copyFrom_141 : decode cX0_copyFrom 141 = .ok (.aload_n 0, 1) := by decide +kernel
theorem dX0_copyFrom_142 : decode cX0_copyFrom 142 = .ok (.getfield 27, 3) := by decide +kernel
theorem dX0_copyFrom_145 : decode cX0_copyFrom 145 = .ok (.iload_n 2, 1) := by decide +kernel
theorem dX0_copyFrom_146 : decode cX0_copyFrom 146 = .ok (.aaload, 1) := by decide +kernel
theorem dX0_copyFrom_147 : decode cX0_copyFrom 147 = .ok (.aload_n 1, 1) := by decide +kernel
theorem dX0_copyFrom_148 : decode cX0_copyFrom 148 = .ok (.getfield 27, 3) := by decide +kernel
theorem dX0_copyFrom_151 : decode cX0_copyFrom 151 = .ok (.iload_n 2, 1) := by decide +kernel
theorem dX0_copyFrom_152 : decode cX0_copyFrom 152 = .ok (.aaload, 1) := by decide +kernel
theorem dX0_copyFrom_153 : decode cX0_copyFrom 153 = .ok (.invokevirtual 76, 3) := by decide +kernel
theorem dX0_copyFrom_156 : decode cX0_copyFrom 156 = .ok (.iinc 2 1, 3) := by decide +kernel
theorem dX0_copyFrom_159 : decode cX0_copyFrom 159 = .ok (.goto (-23), 3) := by decide +kernel
theorem dX0_copyFrom_162 : decode cX0_copyFrom 162 = .ok (.return_, 1) := by decide +kernel
theorem dX0_hasCell_0 : decode cX0_hasCell 0 = .ok (.iload_n 1, 1) := by decide +kernel
theorem dX0_hasCell_1 : decode cX0_hasCell 1 = .ok (.ifCond .lt 20, 3) := by decide +kernel
theorem dX0_hasCell_4 : decode cX0_hasCell 4 = .ok (.iload_n 1, 1) := by decide +kernel
theorem dX0_hasCell_5 : decode cX0_hasCell 5 = .ok (.aload_n 0, 1) := by decide +kernel
theorem dX0_hasCell_6 : decode cX0_hasCell 6 = .ok (.getfield 37, 3) := by decide +kernel
theorem dX0_hasCell_9 : decode cX0_hasCell 9 = .ok (.aload_n 0, 1) := by decide +kernel
theorem dX0_hasCell_10 : decode cX0_hasCell 10 = .ok (.getfield 41, 3) := by decide +kernel
theorem dX0_hasCell_13 : decode cX0_hasCell 13 = .ok (.imul, 1) := by decide +kernel
theorem dX0_hasCell_14 : decode cX0_hasCell 14 = .ok (.if_icmp .ge 7, 3) := by decide +kernel
theorem dX0_hasCell_17 : decode cX0_hasCell 17 = .ok (.iconst 1, 1) := by decide +kernel
theorem dX0_hasCell_18 : decode cX0_hasCell 18 = .ok (.goto 4, 3) := by decide +kernel
theorem dX0_hasCell_21 : decode cX0_hasCell 21 = .ok (.iconst 0, 1) := by decide +kernel
theorem dX0_hasCell_22 : decode cX0_hasCell 22 = .ok (.ireturn, 1) := by decide +kernel
theorem dX0_cell_0 : decode cX0_cell 0 = .ok (.aload_n 0, 1) := by decide +kernel
theorem dX0_cell_1 : decode cX0_cell 1 = .ok (.getfield 55, 3) := by decide +kernel
theorem dX0_cell_4 : decode cX0_cell 4 = .ok (.aload_n 0, 1) := by decide +kernel
theorem dX0_cell_5 : decode cX0_cell 5 = .ok (.getfield 37, 3) := by decide +kernel
theorem dX0_cell_8 : decode cX0_cell 8 = .ok (.imul, 1) := by decide +kernel
theorem dX0_cell_9 : decode cX0_cell 9 = .ok (.aload_n 0, 1) := by decide +kernel
theorem dX0_cell_10 : decode cX0_cell 10 = .ok (.getfield 58, 3) := by decide +kernel
theorem dX0_cell_13 : decode cX0_cell 13 = .ok (.iadd, 1) := by decide +kernel
theorem dX0_cell_14 : decode cX0_cell 14 = .ok (.ireturn, 1) := by decide +kernel
theorem dX0_armyOfHour_0 : decode cX0_armyOfHour 0 = .ok (.aload_n 0, 1) := by decide +kernel
theorem dX0_armyOfHour_1 : decode cX0_armyOfHour 1 = .ok (.getfield 46, 3) := by decide +kernel
theorem dX0_armyOfHour_4 : decode cX0_armyOfHour 4 = .ok (.iconst 1, 1) := by decide +kernel
theorem dX0_armyOfHour_5 : decode cX0_armyOfHour 5 = .ok (.iand, 1) := by decide +kernel
theorem dX0_armyOfHour_6 : decode cX0_armyOfHour 6 = .ok (.ireturn, 1) := by decide +kernel
theorem dX0_mudInAll_0 : decode cX0_mudInAll 0 = .ok (.iconst 0, 1) := by decide +kernel
theorem dX0_mudInAll_1 : decode cX0_mudInAll 1 = .ok (.istore_n 1, 1) := by decide +kernel
theorem dX0_mudInAll_2 : decode cX0_mudInAll 2 = .ok (.iconst 0, 1) := by decide +kernel
theorem dX0_mudInAll_3 : decode cX0_mudInAll 3 = .ok (.istore_n 2, 1) := by decide +kernel
theorem dX0_mudInAll_4 : decode cX0_mudInAll 4 = .ok (.iload_n 2, 1) := by decide +kernel
theorem dX0_mudInAll_5 : decode cX0_mudInAll 5 = .ok (.aload_n 0, 1) := by decide +kernel
theorem dX0_mudInAll_6 : decode cX0_mudInAll 6 = .ok (.getfield 9, 3) := by decide +kernel
theorem dX0_mudInAll_9 : decode cX0_mudInAll 9 = .ok (.arraylength, 1) := by decide +kernel
theorem dX0_mudInAll_10 : decode cX0_mudInAll 10 = .ok (.if_icmp .ge 18, 3) := by decide +kernel
theorem dX0_mudInAll_13 : decode cX0_mudInAll 13 = .ok (.iload_n 1, 1) := by decide +kernel
theorem dX0_mudInAll_14 : decode cX0_mudInAll 14 = .ok (.aload_n 0, 1) := by decide +kernel
theorem dX0_mudInAll_15 : decode cX0_mudInAll 15 = .ok (.getfield 9, 3) := by decide +kernel
theorem dX0_mudInAll_18 : decode cX0_mudInAll 18 = .ok (.iload_n 2, 1) := by decide +kernel
theorem dX0_mudInAll_19 : decode cX0_mudInAll 19 = .ok (.iaload, 1) := by decide +kernel
theorem dX0_mudInAll_20 : decode cX0_mudInAll 20 = .ok (.iadd, 1) := by decide +kernel
theorem dX0_mudInAll_21 : decode cX0_mudInAll 21 = .ok (.istore_n 1, 1) := by decide +kernel
theorem dX0_mudInAll_22 : decode cX0_mudInAll 22 = .ok (.iinc 2 1, 3) := by decide +kernel
theorem dX0_mudInAll_25 : decode cX0_mudInAll 25 = .ok (.goto (-21), 3) := by decide +kernel
theorem dX0_mudInAll_28 : decode cX0_mudInAll 28 = .ok (.iload_n 1, 1) := by decide +kernel
theorem dX0_mudInAll_29 : decode cX0_mudInAll 29 = .ok (.ireturn, 1) := by decide +kernel
theorem dX0_goMinutes_0 : decode cX0_goMinutes 0 = .ok (.iconst 0, 1) := by decide +kernel
theorem dX0_goMinutes_1 : decode cX0_goMinutes 1 = .ok (.istore_n 2, 1) := by decide +kernel
theorem dX0_goMinutes_2 : decode cX0_goMinutes 2 = .ok (.iload_n 2, 1) := by decide +kernel
theorem dX0_goMinutes_3 : decode cX0_goMinutes 3 = .ok (.iload_n 1, 1) := by decide +kernel
theorem dX0_goMinutes_4 : decode cX0_goMinutes 4 = .ok (.if_icmp .ge 14, 3) := by decide +kernel
theorem dX0_goMinutes_7 : decode cX0_goMinutes 7 = .ok (.aload_n 0, 1) := by decide +kernel
theorem dX0_goMinutes_8 : decode cX0_goMinutes 8 = .ok (.invokevirtual 86, 3) := by decide +kernel
theorem dX0_goMinutes_11 : decode cX0_goMinutes 11 = .ok (.pop, 1) := by decide +kernel
theorem dX0_goMinutes_12 : decode cX0_goMinutes 12 = .ok (.iinc 2 1, 3) := by decide +kernel
theorem dX0_goMinutes_15 : decode cX0_goMinutes 15 = .ok (.goto (-13), 3) := by decide +kernel
theorem dX0_goMinutes_18 : decode cX0_goMinutes 18 = .ok (.return_, 1) := by decide +kernel
theorem dX0_goMinute_0 : decode cX0_goMinute 0 = .ok (.aload_n 0, 1) := by decide +kernel
theorem dX0_goMinute_1 : decode cX0_goMinute 1 = .ok (.invokevirtual 90, 3) := by decide +kernel
theorem dX0_goMinute_4 : decode cX0_goMinute 4 = .ok (.istore_n 1, 1) := by decide +kernel
theorem dX0_goMinute_5 : decode cX0_goMinute 5 = .ok (.aload_n 0, 1) := by decide +kernel
theorem dX0_goMinute_6 : decode cX0_goMinute 6 = .ok (.getfield 68, 3) := by decide +kernel
theorem dX0_goMinute_9 : decode cX0_goMinute 9 = .ok (.ifCond .ne 13, 3) := by decide +kernel
theorem dX0_goMinute_12 : decode cX0_goMinute 12 = .ok (.aload_n 0, 1) := by decide +kernel
theorem dX0_goMinute_13 : decode cX0_goMinute 13 = .ok (.aload_n 0, 1) := by decide +kernel
theorem dX0_goMinute_14 : decode cX0_goMinute 14 = .ok (.getfield 27, 3) := by decide +kernel
theorem dX0_goMinute_17 : decode cX0_goMinute 17 = .ok (.iload_n 1, 1) := by decide +kernel
theorem dX0_goMinute_18 : decode cX0_goMinute 18 = .ok (.aaload, 1) := by decide +kernel
theorem dX0_goMinute_19 : decode cX0_goMinute 19 = .ok (.invokevirtual 93, 3) := by decide +kernel
theorem dX0_goMinute_22 : decode cX0_goMinute 22 = .ok (.aload_n 0, 1) := by decide +kernel
theorem dX0_goMinute_23 : decode cX0_goMinute 23 = .ok (.getfield 65, 3) := by decide +kernel
theorem dX0_goMinute_26 : decode cX0_goMinute 26 = .ok (.iconst 4, 1) := by decide +kernel
theorem dX0_goMinute_27 : decode cX0_goMinute 27 = .ok (.if_icmp .ne 7, 3) := by decide +kernel
theorem dX0_goMinute_30 : decode cX0_goMinute 30 = .ok (.iload_n 1, 1) := by decide +kernel
theorem dX0_goMinute_31 : decode cX0_goMinute 31 = .ok (.goto 4, 3) := by decide +kernel
theorem dX0_goMinute_34 : decode cX0_goMinute 34 = .ok (.iconst (-1), 1) := by decide +kernel
theorem dX0_goMinute_35 : decode cX0_goMinute 35 = .ok (.istore_n 2, 1) := by decide +kernel
theorem dX0_goMinute_36 : decode cX0_goMinute 36 = .ok (.aload_n 0, 1) := by decide +kernel
theorem dX0_goMinute_37 : decode cX0_goMinute 37 = .ok (.getfield 68, 3) := by decide +kernel
theorem dX0_goMinute_40 : decode cX0_goMinute 40 = .ok (.ifCond .le 8, 3) := by decide +kernel
theorem dX0_goMinute_43 : decode cX0_goMinute 43 = .ok (.aload_n 0, 1) := by decide +kernel
theorem dX0_goMinute_44 : decode cX0_goMinute 44 = .ok (.iload_n 1, 1) := by decide +kernel
theorem dX0_goMinute_45 : decode cX0_goMinute 45 = .ok (.invokevirtual 96, 3) := by decide +kernel
theorem dX0_goMinute_48 : decode cX0_goMinute 48 = .ok (.aload_n 0, 1) := by decide +kernel
theorem dX0_goMinute_49 : decode cX0_goMinute 49 = .ok (.iconst 1, 1) := by decide +kernel
theorem dX0_goMinute_50 : decode cX0_goMinute 50 = .ok (.invokevirtual 100, 3) := by decide +kernel
theorem dX0_goMinute_53 : decode cX0_goMinute 53 = .ok (.iload_n 2, 1) := by decide +kernel
theorem dX0_goMinute_54 : decode cX0_goMinute 54 = .ok (.ireturn, 1) := by decide +kernel
theorem dX0_windOn_0 : decode cX0_windOn 0 = .ok (.aload_n 0, 1) := by decide +kernel
theorem dX0_windOn_1 : decode cX0_windOn 1 = .ok (.dup, 1) := by decide +kernel
theorem dX0_windOn_2 : decode cX0_windOn 2 = .ok (.getfield 49, 3) := by decide +kernel
theorem dX0_windOn_5 : decode cX0_windOn 5 = .ok (.iload_n 1, 1) := by decide +kernel
theorem dX0_windOn_6 : decode cX0_windOn 6 = .ok (.iadd, 1) := by decide +kernel
theorem dX0_windOn_7 : decode cX0_windOn 7 = .ok (.putfield 49, 3) := by decide +kernel
theorem dX0_windOn_10 : decode cX0_windOn 10 = .ok (.aload_n 0, 1) := by decide +kernel
theorem dX0_windOn_11 : decode cX0_windOn 11 = .ok (.getfield 49, 3) := by decide +kernel
theorem dX0_windOn_14 : decode cX0_windOn 14 = .ok (.aload_n 0, 1) := by decide +kernel
theorem dX0_windOn_15 : decode cX0_windOn 15 = .ok (.getfield 45, 3) := by decide +kernel
theorem dX0_windOn_18 : decode cX0_windOn 18 = .ok (.if_icmp .lt 18, 3) := by decide +kernel
theorem dX0_windOn_21 : decode cX0_windOn 21 = .ok (.aload_n 0, 1) := by decide +kernel
theorem dX0_windOn_22 : decode cX0_windOn 22 = .ok (.iconst 0, 1) := by decide +kernel
theorem dX0_windOn_23 : decode cX0_windOn 23 = .ok (.putfield 49, 3) := by decide +kernel
theorem dX0_windOn_26 : decode cX0_windOn 26 = .ok (.aload_n 0, 1) := by decide +kernel
theorem dX0_windOn_27 : decode cX0_windOn 27 = .ok (.dup, 1) := by decide +kernel
theorem dX0_windOn_28 : decode cX0_windOn 28 = .ok (.getfield 46, 3) := by decide +kernel
theorem dX0_windOn_31 : decode cX0_windOn 31 = .ok (.iconst 1, 1) := by decide +kernel
theorem dX0_windOn_32 : decode cX0_windOn 32 = .ok (.iadd, 1) := by decide +kernel
theorem dX0_windOn_33 : decode cX0_windOn 33 = .ok (.putfield 46, 3) := by decide +kernel
theorem dX0_windOn_36 : decode cX0_windOn 36 = .ok (.return_, 1) := by decide +kernel
theorem dX0_beginNext_0 : decode cX0_beginNext 0 = .ok (.aload_n 1, 1) := by decide +kernel
theorem dX0_beginNext_1 : decode cX0_beginNext 1 = .ok (.getfield 103, 3) := by decide +kernel
theorem dX0_beginNext_4 : decode cX0_beginNext 4 = .ok (.ifCond .ne 4, 3) := by decide +kernel
theorem dX0_beginNext_7 : decode cX0_beginNext 7 = .ok (.return_, 1) := by decide +kernel
theorem dX0_beginNext_8 : decode cX0_beginNext 8 = .ok (.aload_n 0, 1) := by decide +kernel
theorem dX0_beginNext_9 : decode cX0_beginNext 9 = .ok (.aload_n 1, 1) := by decide +kernel
theorem dX0_beginNext_10 : decode cX0_beginNext 10 = .ok (.getfield 106, 3) := by decide +kernel
theorem dX0_beginNext_13 : decode cX0_beginNext 13 = .ok (.iconst 0, 1) := by decide +kernel
theorem dX0_beginNext_14 : decode cX0_beginNext 14 = .ok (.iaload, 1) := by decide +kernel
theorem dX0_beginNext_15 : decode cX0_beginNext 15 = .ok (.putfield 65, 3) := by decide +kernel
theorem dX0_beginNext_18 : decode cX0_beginNext 18 = .ok (.aload_n 0, 1) := by decide +kernel
theorem dX0_beginNext_19 : decode cX0_beginNext 19 = .ok (.aload_n 1, 1) := by decide +kernel
theorem dX0_beginNext_20 : decode cX0_beginNext 20 = .ok (.getfield 109, 3) := by decide +kernel
theorem dX0_beginNext_23 : decode cX0_beginNext 23 = .ok (.iconst 0, 1) := by decide +kernel
theorem dX0_beginNext_24 : decode cX0_beginNext 24 = .ok (.iaload, 1) := by decide +kernel
theorem dX0_beginNext_25 : decode cX0_beginNext 25 = .ok (.putfield 68, 3) := by decide +kernel
theorem dX0_beginNext_28 : decode cX0_beginNext 28 = .ok (.aload_n 1, 1) := by decide +kernel
theorem dX0_beginNext_29 : decode cX0_beginNext 29 = .ok (.invokevirtual 112, 3) := by decide +kernel
theorem dX0_beginNext_32 : decode cX0_beginNext 32 = .ok (.return_, 1) := by decide +kernel
theorem dX0_doBegun_0 : decode cX0_doBegun 0 = .ok (.aload_n 0, 1) := by decide +kernel
theorem dX0_doBegun_1 : decode cX0_doBegun 1 = .ok (.getfield 65, 3) := by decide +kernel
theorem dX0_doBegun_4 : decode cX0_doBegun 4 = .ok (.tableswitch 90 0 3 #[32, 43, 56, 75], 32) := by decide +kernel
theorem dX0_doBegun_36 : decode cX0_doBegun 36 = .ok (.aload_n 0, 1) := by decide +kernel
theorem dX0_doBegun_37 : decode cX0_doBegun 37 = .ok (.aload_n 0, 1) := by decide +kernel
theorem dX0_doBegun_38 : decode cX0_doBegun 38 = .ok (.getfield 64, 3) := by decide +kernel
theorem dX0_doBegun_41 : decode cX0_doBegun 41 = .ok (.invokevirtual 115, 3) := by decide +kernel
theorem dX0_doBegun_44 : decode cX0_doBegun 44 = .ok (.goto 60, 3) := by decide +kernel
theorem dX0_doBegun_47 : decode cX0_doBegun 47 = .ok (.aload_n 0, 1) := by decide +kernel
theorem dX0_doBegun_48 : decode cX0_doBegun 48 = .ok (.aload_n 0, 1) := by decide +kernel
theorem dX0_doBegun_49 : decode cX0_doBegun 49 = .ok (.getfield 64, 3) := by decide +kernel
theorem dX0_doBegun_52 : decode cX0_doBegun 52 = .ok (.iconst 2, 1) := by decide +kernel
theorem dX0_doBegun_53 : decode cX0_doBegun 53 = .ok (.iadd, 1) := by decide +kernel
theorem dX0_doBegun_54 : decode cX0_doBegun 54 = .ok (.invokevirtual 115, 3) := by decide +kernel
theorem dX0_doBegun_57 : decode cX0_doBegun 57 = .ok (.goto 47, 3) := by decide +kernel
theorem dX0_doBegun_60 : decode cX0_doBegun 60 = .ok (.aload_n 0, 1) := by decide +kernel
theorem dX0_doBegun_61 : decode cX0_doBegun 61 = .ok (.aload_n 0, 1) := by decide +kernel
theorem dX0_doBegun_62 : decode cX0_doBegun 62 = .ok (.getfield 64, 3) := by decide +kernel
theorem dX0_doBegun_65 : decode cX0_doBegun 65 = .ok (.invokevirtual 115, 3) := by decide +kernel
theorem dX0_doBegun_68 : decode cX0_doBegun 68 = .ok (.aload_n 0, 1) := by decide +kernel
theorem dX0_doBegun_69 : decode cX0_doBegun 69 = .ok (.aload_n 0, 1) := by decide +kernel
theorem dX0_doBegun_70 : decode cX0_doBegun 70 = .ok (.getfield 64, 3) := by decide +kernel
theorem dX0_doBegun_73 : decode cX0_doBegun 73 = .ok (.invokevirtual 115, 3) := by decide +kernel
theorem dX0_doBegun_76 : decode cX0_doBegun 76 = .ok (.goto 28, 3) := by decide +kernel
theorem dX0_doBegun_79 : decode cX0_doBegun 79 = .ok (.aload_n 0, 1) := by decide +kernel
theorem dX0_doBegun_80 : decode cX0_doBegun 80 = .ok (.aload_n 0, 1) := by decide +kernel
theorem dX0_doBegun_81 : decode cX0_doBegun 81 = .ok (.getfield 64, 3) := by decide +kernel
theorem dX0_doBegun_84 : decode cX0_doBegun 84 = .ok (.iconst 1, 1) := by decide +kernel
theorem dX0_doBegun_85 : decode cX0_doBegun 85 = .ok (.iadd, 1) := by decide +kernel
theorem dX0_doBegun_86 : decode cX0_doBegun 86 = .ok (.iconst 3, 1) := by decide +kernel
theorem dX0_doBegun_87 : decode cX0_doBegun 87 = .ok (.iand, 1) := by decide +kernel
theorem dX0_doBegun_88 : decode cX0_doBegun 88 = .ok (.putfield 64, 3) := by decide +kernel
theorem dX0_doBegun_91 : decode cX0_doBegun 91 = .ok (.goto 13, 3) := by decide +kernel
theorem dX0_doBegun_94 : decode cX0_doBegun 94 = .ok (.aload_n 0, 1) := by decide +kernel
theorem dX0_doBegun_95 : decode cX0_doBegun 95 = .ok (.getfield 21, 3) := by decide +kernel
theorem dX0_doBegun_98 : decode cX0_doBegun 98 = .ok (.iload_n 1, 1) := by decide +kernel
theorem dX0_doBegun_99 : decode cX0_doBegun 99 = .ok (.dup2, 1) := by decide +kernel
theorem dX0_doBegun_100 : decode cX0_doBegun 100 = .ok (.iaload, 1) := by decide +kernel
theorem dX0_doBegun_101 : decode cX0_doBegun 101 = .ok (.iconst 1, 1) := by decide +kernel
theorem dX0_doBegun_102 : decode cX0_doBegun 102 = .ok (.iadd, 1) := by decide +kernel
theorem dX0_doBegun_103 : decode cX0_doBegun 103 = .ok (.iastore, 1) := by decide +kernel
theorem dX0_doBegun_104 : decode cX0_doBegun 104 = .ok (.aload_n 0, 1) := by decide +kernel
theorem dX0_doBegun_105 : decode cX0_doBegun 105 = .ok (.dup, 1) := by decide +kernel
theorem dX0_doBegun_106 : decode cX0_doBegun 106 = .ok (.getfield 68, 3) := by decide +kernel
theorem dX0_doBegun_109 : decode cX0_doBegun 109 = .ok (.iconst 1, 1) := by decide +kernel
theorem dX0_doBegun_110 : decode cX0_doBegun 110 = .ok (.isub, 1) := by decide +kernel
theorem dX0_doBegun_111 : decode cX0_doBegun 111 = .ok (.putfield 68, 3) := by decide +kernel
theorem dX0_doBegun_114 : decode cX0_doBegun 114 = .ok (.aload_n 0, 1) := by decide +kernel
theorem dX0_doBegun_115 : decode cX0_doBegun 115 = .ok (.getfield 68, 3) := by decide +kernel
theorem dX0_doBegun_118 : decode cX0_doBegun 118 = .ok (.ifCond .ne 8, 3) := by decide +kernel
theorem dX0_doBegun_121 : decode cX0_doBegun 121 = .ok (.aload_n 0, 1) := by decide +kernel
theorem dX0_doBegun_122 : decode cX0_doBegun 122 = .ok (.iconst (-1), 1) := by decide +kernel
theorem dX0_doBegun_123 : decode cX0_doBegun 123 = .ok (.putfield 65, 3) := by decide +kernel
theorem dX0_doBegun_126 : decode cX0_doBegun 126 = .ok (.return_, 1) := by decide +kernel
theorem dX0_step_0 : decode cX0_step 0 = .ok (.iload_n 1, 1) := by decide +kernel
theorem dX0_step_1 : decode cX0_step 1 = .ok (.iconst 3, 1) := by decide +kernel
theorem dX0_step_2 : decode cX0_step 2 = .ok (.iand, 1) := by decide +kernel
theorem dX0_step_3 : decode cX0_step 3 = .ok (.istore_n 2, 1) := by decide +kernel
theorem dX0_step_4 : decode cX0_step 4 = .ok (.aload_n 0, 1) := by decide +kernel
theorem dX0_step_5 : decode cX0_step 5 = .ok (.getfield 55, 3) := by decide +kernel
theorem dX0_step_8 : decode cX0_step 8 = .ok (.getstatic 15, 3) := by decide +kernel
theorem dX0_step_11 : decode cX0_step 11 = .ok (.iload_n 2, 1) := by decide +kernel
theorem dX0_step_12 : decode cX0_step 12 = .ok (.iaload, 1) := by decide +kernel
theorem dX0_step_13 : decode cX0_step 13 = .ok (.iadd, 1) := by decide +kernel
theorem dX0_step_14 : decode cX0_step 14 = .ok (.istore_n 3, 1) := by decide +kernel
theorem dX0_step_15 : decode cX0_step 15 = .ok (.aload_n 0, 1) := by decide +kernel
theorem dX0_step_16 : decode cX0_step 16 = .ok (.getfield 58, 3) := by decide +kernel
theorem dX0_step_19 : decode cX0_step 19 = .ok (.getstatic 118, 3) := by decide +kernel
theorem dX0_step_22 : decode cX0_step 22 = .ok (.iload_n 2, 1) := by decide +kernel
theorem dX0_step_23 : decode cX0_step 23 = .ok (.iaload, 1) := by decide +kernel
theorem dX0_step_24 : decode cX0_step 24 = .ok (.iadd, 1) := by decide +kernel
theorem dX0_step_25 : decode cX0_step 25 = .ok (.istore 4, 2) := by decide +kernel
theorem dX0_step_27 : decode cX0_step 27 = .ok (.iload_n 3, 1) := by decide +kernel
theorem dX0_step_28 : decode cX0_step 28 = .ok (.ifCond .lt 25, 3) := by decide +kernel
theorem dX0_step_31 : decode cX0_step 31 = .ok (.iload_n 3, 1) := by decide +kernel
theorem dX0_step_32 : decode cX0_step 32 = .ok (.aload_n 0, 1) := by decide +kernel
theorem dX0_step_33 : decode cX0_step 33 = .ok (.getfield 41, 3) := by decide +kernel
theorem dX0_step_36 : decode cX0_step 36 = .ok (.if_icmp .ge 17, 3) := by decide +kernel
theorem dX0_step_39 : decode cX0_step 39 = .ok (.iload 4, 2) := by decide +kernel
theorem dX0_step_41 : decode cX0_step 41 = .ok (.ifCond .lt 12, 3) := by decide +kernel
theorem dX0_step_44 : decode cX0_step 44 = .ok (.iload 4, 2) := by decide +kernel
theorem dX0_step_46 : decode cX0_step 46 = .ok (.aload_n 0, 1) := by decide +kernel
theorem dX0_step_47 : decode cX0_step 47 = .ok (.getfield 37, 3) := by decide +kernel
theorem dX0_step_50 : decode cX0_step 50 = .ok (.if_icmp .lt 14, 3) := by decide +kernel
theorem dX0_step_53 : decode cX0_step 53 = .ok (.aload_n 0, 1) := by decide +kernel
theorem dX0_step_54 : decode cX0_step 54 = .ok (.getfield 18, 3) := by decide +kernel
theorem dX0_step_57 : decode cX0_step 57 = .ok (.iload_n 2, 1) := by decide +kernel
theorem dX0_step_58 : decode cX0_step 58 = .ok (.dup2, 1) := by decide +kernel
theorem dX0_step_59 : decode cX0_step 59 = .ok (.iaload, 1) := by decide +kernel
theorem dX0_step_60 : decode cX0_step 60 = .ok (.iconst 1, 1) := by decide +kernel
theorem dX0_step_61 : decode cX0_step 61 = .ok (.iadd, 1) := by decide +kernel
theorem dX0_step_62 : decode cX0_step 62 = .ok (.iastore, 1) := by decide +kernel
theorem dX0_step_63 : decode cX0_step 63 = .ok (.return_, 1) := by decide +kernel
theorem dX0_step_64 : decode cX0_step 64 = .ok (.aload_n 0, 1) := by decide +kernel
theorem dX0_step_65 : decode cX0_step 65 = .ok (.iload_n 3, 1) := by decide +kernel
theorem dX0_step_66 : decode cX0_step 66 = .ok (.putfield 55, 3) := by decide +kernel
theorem dX0_step_69 : decode cX0_step 69 = .ok (.aload_n 0, 1) := by decide +kernel
theorem dX0_step_70 : decode cX0_step 70 = .ok (.iload 4, 2) := by decide +kernel
theorem dX0_step_72 : decode cX0_step 72 = .ok (.putfield 58, 3) := by decide +kernel
theorem dX0_step_75 : decode cX0_step 75 = .ok (.aload_n 0, 1) := by decide +kernel
theorem dX0_step_76 : decode cX0_step 76 = .ok (.getfield 9, 3) := by decide +kernel
theorem dX0_step_79 : decode cX0_step 79 = .ok (.aload_n 0, 1) := by decide +kernel
theorem dX0_step_80 : decode cX0_step 80 = .ok (.invokevirtual 121, 3) := by decide +kernel
theorem dX0_step_83 : decode cX0_step 83 = .ok (.dup2, 1) := by decide +kernel
theorem dX0_step_84 : decode cX0_step 84 = .ok (.iaload, 1) := by decide +kernel
theorem dX0_step_85 : decode cX0_step 85 = .ok (.iconst 1, 1) := by decide +kernel
theorem dX0_step_86 : decode cX0_step 86 = .ok (.iadd, 1) := by decide +kernel
theorem dX0_step_87 : decode cX0_step 87 = .ok (.iastore, 1) := by decide +kernel
theorem dX0_step_88 : decode cX0_step 88 = .ok (.return_, 1) := by decide +kernel
theorem dX0_clear_0 : decode cX0_clear 0 = .ok (.iconst 0, 1) := by decide +kernel
theorem dX0_clear_1 : decode cX0_clear 1 = .ok (.istore_n 1, 1) := by decide +kernel
theorem dX0_clear_2 : decode cX0_clear 2 = .ok (.iload_n 1, 1) := by decide +kernel
theorem dX0_clear_3 : decode cX0_clear 3 = .ok (.aload_n 0, 1) := by decide +kernel
theorem dX0_clear_4 : decode cX0_clear 4 = .ok (.arraylength, 1) := by decide +kernel
theorem dX0_clear_5 : decode cX0_clear 5 = .ok (.if_icmp .ge 13, 3) := by decide +kernel
theorem dX0_clear_8 : decode cX0_clear 8 = .ok (.aload_n 0, 1) := by decide +kernel
theorem dX0_clear_9 : decode cX0_clear 9 = .ok (.iload_n 1, 1) := by decide +kernel
theorem dX0_clear_10 : decode cX0_clear 10 = .ok (.iconst 0, 1) := by decide +kernel
theorem dX0_clear_11 : decode cX0_clear 11 = .ok (.iastore, 1) := by decide +kernel
theorem dX0_clear_12 : decode cX0_clear 12 = .ok (.iinc 1 1, 3) := by decide +kernel
theorem dX0_clear_15 : decode cX0_clear 15 = .ok (.goto (-13), 3) := by decide +kernel
theorem dX0_clear_18 : decode cX0_clear 18 = .ok (.return_, 1) := by decide +kernel
theorem dX1_init_0 : decode cX1_init 0 = .ok (.aload_n 0, 1) := by decide +kernel
theorem dX1_init_1 : decode cX1_init 1 = .ok (.invokespecial 3, 3) := by decide +kernel
theorem dX1_init_4 : decode cX1_init 4 = .ok (.aload_n 0, 1) := by decide +kernel
theorem dX1_init_5 : decode cX1_init 5 = .ok (.bipush 8, 2) := by decide +kernel
theorem dX1_init_7 : decode cX1_init 7 = .ok (.newarray .int, 2) := by decide +kernel
theorem dX1_init_9 : decode cX1_init 9 = .ok (.putfield 9, 3) := by decide +kernel
theorem dX1_init_12 : decode cX1_init 12 = .ok (.aload_n 0, 1) := by decide +kernel
theorem dX1_init_13 : decode cX1_init 13 = .ok (.bipush 8, 2) := by decide +kernel
theorem dX1_init_15 : decode cX1_init 15 = .ok (.newarray .int, 2) := by decide +kernel
theorem dX1_init_17 : decode cX1_init 17 = .ok (.putfield 15, 3) := by decide +kernel
theorem dX1_init_20 : decode cX1_init 20 = .ok (.aload_n 0, 1) := by decide +kernel
theorem dX1_init_21 : decode cX1_init 21 = .ok (.iconst 0, 1) := by decide +kernel
theorem dX1_init_22 : decode cX1_init 22 = .ok (.putfield 18, 3) := by decide +kernel
theorem dX1_init_25 : decode cX1_init 25 = .ok (.return_, 1) := by decide +kernel
theorem dX1_isFull_0 : decode cX1_isFull 0 = .ok (.aload_n 0, 1) := by decide +kernel
theorem dX1_isFull_1 : decode cX1_isFull 1 = .ok (.getfield 18, 3) := by decide +kernel
theorem dX1_isFull_4 : decode cX1_isFull 4 = .ok (.bipush 8, 2) := by decide +kernel
theorem dX1_isFull_6 : decode cX1_isFull 6 = .ok (.if_icmp .lt 7, 3) := by decide +kernel
theorem dX1_isFull_9 : decode cX1_isFull 9 = .ok (.iconst 1, 1) := by decide +kernel
theorem dX1_isFull_10 : decode cX1_isFull 10 = .ok (.goto 4, 3) := by decide +kernel
theorem dX1_isFull_13 : decode cX1_isFull 13 = .ok (.iconst 0, 1) := by decide +kernel
theorem dX1_isFull_14 : decode cX1_isFull 14 = .ok (.ireturn, 1) := by decide +kernel
theorem dX1_append_0 : decode cX1_append 0 = .ok (.aload_n 0, 1) := by decide +kernel
theorem dX1_append_1 : decode cX1_append 1 = .ok (.invokevirtual 22, 3) := by decide +kernel
theorem dX1_append_4 : decode cX1_append 4 = .ok (.ifCond .eq 4, 3) := by decide +kernel
theorem dX1_append_7 : decode cX1_append 7 = .ok (.return_, 1) := by decide +kernel
theorem dX1_append_8 : decode cX1_append 8 = .ok (.aload_n 0, 1) := by decide +kernel
theorem dX1_append_9 : decode cX1_append 9 = .ok (.getfield 9, 3) := by decide +kernel
theorem dX1_append_12 : decode cX1_append 12 = .ok (.aload_n 0, 1) := by decide +kernel
theorem dX1_append_13 : decode cX1_append 13 = .ok (.getfield 18, 3) := by decide +kernel
theorem dX1_append_16 : decode cX1_append 16 = .ok (.iload_n 1, 1) := by decide +kernel
theorem dX1_append_17 : decode cX1_append 17 = .ok (.iastore, 1) := by decide +kernel
theorem dX1_append_18 : decode cX1_append 18 = .ok (.aload_n 0, 1) := by decide +kernel
theorem dX1_append_19 : decode cX1_append 19 = .ok (.getfield 15, 3) := by decide +kernel
theorem dX1_append_22 : decode cX1_append 22 = .ok (.aload_n 0, 1) := by decide +kernel
theorem dX1_append_23 : decode cX1_append 23 = .ok (.getfield 18, 3) := by decide +kernel
theorem dX1_append_26 : decode cX1_append 26 = .ok (.iload_n 2, 1) := by decide +kernel
theorem dX1_append_27 : decode cX1_append 27 = .ok (.iastore, 1) := by decide +kernel
theorem dX1_append_28 : decode cX1_append 28 = .ok (.aload_n 0, 1) := by decide +kernel
theorem dX1_append_29 : decode cX1_append 29 = .ok (.dup, 1) := by decide +kernel
theorem dX1_append_30 : decode cX1_append 30 = .ok (.getfield 18, 3) := by decide +kernel
theorem dX1_append_33 : decode cX1_append 33 = .ok (.iconst 1, 1) := by decide +kernel
theorem dX1_append_34 : decode cX1_append 34 = .ok (.iadd, 1) := by decide +kernel
theorem dX1_append_35 : decode cX1_append 35 = .ok (.putfield 18, 3) := by decide +kernel
theorem dX1_append_38 : decode cX1_append 38 = .ok (.return_, 1) := by decide +kernel
theorem dX1_replaceNext_0 : decode cX1_replaceNext 0 = .ok (.aload_n 0, 1) := by decide +kernel
theorem dX1_replaceNext_1 : decode cX1_replaceNext 1 = .ok (.getfield 9, 3) := by decide +kernel
theorem dX1_replaceNext_4 : decode cX1_replaceNext 4 = .ok (.iconst 0, 1) := by decide +kernel
theorem dX1_replaceNext_5 : decode cX1_replaceNext 5 = .ok (.iload_n 1, 1) := by decide +kernel
theorem dX1_replaceNext_6 : decode cX1_replaceNext 6 = .ok (.iastore, 1) := by decide +kernel
theorem dX1_replaceNext_7 : decode cX1_replaceNext 7 = .ok (.aload_n 0, 1) := by decide +kernel
theorem dX1_replaceNext_8 : decode cX1_replaceNext 8 = .ok (.getfield 15, 3) := by decide +kernel
theorem dX1_replaceNext_11 : decode cX1_replaceNext 11 = .ok (.iconst 0, 1) := by decide +kernel
theorem dX1_replaceNext_12 : decode cX1_replaceNext 12 = .ok (.iload_n 2, 1) := by decide +kernel
theorem dX1_replaceNext_13 : decode cX1_replaceNext 13 = .ok (.iastore, 1) := by decide +kernel
theorem dX1_replaceNext_14 : decode cX1_replaceNext 14 = .ok (.return_, 1) := by decide +kernel
theorem dX1_dropNext_0 : decode cX1_dropNext 0 = .ok (.aload_n 0, 1) := by decide +kernel
theorem dX1_dropNext_1 : decode cX1_dropNext 1 = .ok (.getfield 18, 3) := by decide +kernel
theorem dX1_dropNext_4 : decode cX1_dropNext 4 = .ok (.ifCond .ne 4, 3) := by decide +kernel
theorem dX1_dropNext_7 : decode cX1_dropNext 7 = .ok (.return_, 1) := by decide +kernel
theorem dX1_dropNext_8 : decode cX1_dropNext 8 = .ok (.aload_n 0, 1) := by decide +kernel
theorem dX1_dropNext_9 : decode cX1_dropNext 9 = .ok (.dup, 1) := by decide +kernel
theorem dX1_dropNext_10 : decode cX1_dropNext 10 = .ok (.getfield 18, 3) := by decide +kernel
theorem dX1_dropNext_13 : decode cX1_dropNext 13 = .ok (.iconst 1, 1) := by decide +kernel
theorem dX1_dropNext_14 : decode cX1_dropNext 14 = .ok (.isub, 1) := by decide +kernel
theorem dX1_dropNext_15 : decode cX1_dropNext 15 = .ok (.putfield 18, 3) := by decide +kernel
theorem dX1_dropNext_18 : decode cX1_dropNext 18 = .ok (.aload_n 0, 1) := by decide +kernel
theorem dX1_dropNext_19 : decode cX1_dropNext 19 = .ok (.getfield 9, 3) := by decide +kernel
theorem dX1_dropNext_22 : decode cX1_dropNext 22 = .ok (.iconst 1, 1) := by decide +kernel
theorem dX1_dropNext_23 : decode cX1_dropNext 23 = .ok (.aload_n 0, 1) := by decide +kernel
theorem dX1_dropNext_24 : decode cX1_dropNext 24 = .ok (.getfield 9, 3) := by decide +kernel
theorem dX1_dropNext_27 : decode cX1_dropNext 27 = .ok (.iconst 0, 1) := by decide +kernel
theorem dX1_dropNext_28 : decode cX1_dropNext 28 = .ok (.aload_n 0, 1) := by decide +kernel
theorem dX1_dropNext_29 : decode cX1_dropNext 29 = .ok (.getfield 18, 3) := by decide +kernel
theorem dX1_dropNext_32 : decode cX1_dropNext 32 = .ok (.invokestatic 26, 3) := by decide +kernel
theorem dX1_dropNext_35 : decode cX1_dropNext 35 = .ok (.aload_n 0, 1) := by decide +kernel
theorem dX1_dropNext_36 : decode cX1_dropNext 36 = .ok (.getfield 15, 3) := by decide +kernel
theorem dX1_dropNext_39 : decode cX1_dropNext 39 = .ok (.iconst 1, 1) := by decide +kernel
theorem dX1_dropNext_40 : decode cX1_dropNext 40 = .ok (.aload_n 0, 1) := by decide +kernel
theorem dX1_dropNext_41 : decode cX1_dropNext 41 = .ok (.getfield 15, 3) := by decide +kernel
theorem dX1_dropNext_44 : decode cX1_dropNext 44 = .ok (.iconst 0, 1) := by decide +kernel
theorem dX1_dropNext_45 : decode cX1_dropNext 45 = .ok (.aload_n 0, 1) := by decide +kernel
theorem dX1_dropNext_46 : decode cX1_dropNext 46 = .ok (.getfield 18, 3) := by decide +kernel
theorem dX1_dropNext_49 : decode cX1_dropNext 49 = .ok (.invokestatic 26, 3) := by decide +kernel
theorem dX1_dropNext_52 : decode cX1_dropNext 52 = .ok (.return_, 1) := by decide +kernel
theorem dX1_copyFrom_0 : decode cX1_copyFrom 0 = .ok (.aload_n 0, 1) := by decide +kernel
theorem dX1_copyFrom_1 : decode cX1_copyFrom 1 = .ok (.aload_n 1, 1) := by decide +kernel
theorem dX1_copyFrom_2 : decode cX1_copyFrom 2 = .ok (.getfield 18, 3) := by decide +kernel
theorem dX1_copyFrom_5 : decode cX1_copyFrom 5 = .ok (.putfield 18, 3) := by decide +kernel
theorem dX1_copyFrom_8 : decode cX1_copyFrom 8 = .ok (.aload_n 1, 1) := by decide +kernel
theorem dX1_copyFrom_9 : decode cX1_copyFrom 9 = .ok (.getfield 9, 3) := by decide +kernel
theorem dX1_copyFrom_12 : decode cX1_copyFrom 12 = .ok (.iconst 0, 1) := by decide +kernel
theorem dX1_copyFrom_13 : decode cX1_copyFrom 13 = .ok (.aload_n 0, 1) := by decide +kernel
theorem dX1_copyFrom_14 : decode cX1_copyFrom 14 = .ok (.getfield 9, 3) := by decide +kernel
theorem dX1_copyFrom_17 : decode cX1_copyFrom 17 = .ok (.iconst 0, 1) := by decide +kernel
theorem dX1_copyFrom_18 : decode cX1_copyFrom 18 = .ok (.aload_n 0, 1) := by decide +kernel
theorem dX1_copyFrom_19 : decode cX1_copyFrom 19 = .ok (.getfield 18, 3) := by decide +kernel
theorem dX1_copyFrom_22 : decode cX1_copyFrom 22 = .ok (.invokestatic 26, 3) := by decide +kernel
theorem dX1_copyFrom_25 : decode cX1_copyFrom 25 = .ok (.aload_n 1, 1) := by decide +kernel
theorem dX1_copyFrom_26 : decode cX1_copyFrom 26 = .ok (.getfield 15, 3) := by decide +kernel
theorem dX1_copyFrom_29 : decode cX1_copyFrom 29 = .ok (.iconst 0, 1) := by decide +kernel
theorem dX1_copyFrom_30 : decode cX1_copyFrom 30 = .ok (.aload_n 0, 1) := by decide +kernel
theorem dX1_copyFrom_31 : decode cX1_copyFrom 31 = .ok (.getfield 15, 3) := by decide +kernel
theorem dX1_copyFrom_34 : decode cX1_copyFrom 34 = .ok (.iconst 0, 1) := by decide +kernel
theorem dX1_copyFrom_35 : decode cX1_copyFrom 35 = .ok (.aload_n 0, 1) := by decide +kernel
theorem dX1_copyFrom_36 : decode cX1_copyFrom 36 = .ok (.getfield 18, 3) := by decide +kernel
theorem dX1_copyFrom_39 : decode cX1_copyFrom 39 = .ok (.invokestatic 26, 3) := by decide +kernel
theorem dX1_copyFrom_42 : decode cX1_copyFrom 42 = .ok (.return_, 1) := by decide +kernel
theorem dX2_init_0 : decode cX2_init 0 = .ok (.aload_n 0, 1) := by decide +kernel
theorem dX2_init_1 : decode cX2_init 1 = .ok (.invokespecial 3, 3) := by decide +kernel
theorem dX2_init_4 : decode cX2_init 4 = .ok (.aload_n 0, 1) := by decide +kernel
theorem dX2_init_5 : decode cX2_init 5 = .ok (.bipush 8, 2) := by decide +kernel
theorem dX2_init_7 : decode cX2_init 7 = .ok (.anewarray 9, 3) := by decide +kernel
theorem dX2_init_10 : decode cX2_init 10 = .ok (.putfield 11, 3) := by decide +kernel
theorem dX2_init_13 : decode cX2_init 13 = .ok (.aload_n 0, 1) := by decide +kernel
theorem dX2_init_14 : decode cX2_init 14 = .ok (.iconst 0, 1) := by decide +kernel
theorem dX2_init_15 : decode cX2_init 15 = .ok (.putfield 17, 3) := by decide +kernel
theorem dX2_init_18 : decode cX2_init 18 = .ok (.iconst 0, 1) := by decide +kernel
theorem dX2_init_19 : decode cX2_init 19 = .ok (.istore_n 1, 1) := by decide +kernel
theorem dX2_init_20 : decode cX2_init 20 = .ok (.iload_n 1, 1) := by decide +kernel
theorem dX2_init_21 : decode cX2_init 21 = .ok (.bipush 8, 2) := by decide +kernel
theorem dX2_init_23 : decode cX2_init 23 = .ok (.if_icmp .ge 22, 3) := by decide +kernel
theorem dX2_init_26 : decode cX2_init 26 = .ok (.aload_n 0, 1) := by decide +kernel
theorem dX2_init_27 : decode cX2_init 27 = .ok (.getfield 11, 3) := by decide +kernel
theorem dX2_init_30 : decode cX2_init 30 = .ok (.iload_n 1, 1) := by decide +kernel
theorem dX2_init_31 : decode cX2_init 31 = .ok (.new 9, 3) := by decide +kernel
theorem dX2_init_34 : decode cX2_init 34 = .ok (.dup, 1) := by decide +kernel
theorem dX2_init_35 : decode cX2_init 35 = .ok (.invokespecial 21, 3) := by decide +kernel
theorem dX2_init_38 : decode cX2_init 38 = .ok (.aastore, 1) := by decide +kernel
theorem dX2_init_39 : decode cX2_init 39 = .ok (.iinc 1 1, 3) := by decide +kernel
theorem dX2_init_42 : decode cX2_init 42 = .ok (.goto (-22), 3) := by decide +kernel
theorem dX2_init_45 : decode cX2_init 45 = .ok (.return_, 1) := by decide +kernel
theorem dX2_remember_0 : decode cX2_remember 0 = .ok (.aload_n 0, 1) := by decide +kernel
theorem dX2_remember_1 : decode cX2_remember 1 = .ok (.getfield 17, 3) := by decide +kernel
theorem dX2_remember_4 : decode cX2_remember 4 = .ok (.bipush 8, 2) := by decide +kernel
theorem dX2_remember_6 : decode cX2_remember 6 = .ok (.if_icmp .lt 7, 3) := by decide +kernel
theorem dX2_remember_9 : decode cX2_remember 9 = .ok (.aload_n 0, 1) := by decide +kernel
theorem dX2_remember_10 : decode cX2_remember 10 = .ok (.invokevirtual 22, 3) := by decide +kernel
theorem dX2_remember_13 : decode cX2_remember 13 = .ok (.aload_n 0, 1) := by decide +kernel
theorem dX2_remember_14 : decode cX2_remember 14 = .ok (.getfield 11, 3) := by decide +kernel
theorem dX2_remember_17 : decode cX2_remember 17 = .ok (.aload_n 0, 1) := by decide +kernel
theorem dX2_remember_18 : decode cX2_remember 18 = .ok (.getfield 17, 3) := by decide +kernel
theorem dX2_remember_21 : decode cX2_remember 21 = .ok (.aaload, 1) := by decide +kernel
theorem dX2_remember_22 : decode cX2_remember 22 = .ok (.aload_n 1, 1) := by decide +kernel
theorem dX2_remember_23 : decode cX2_remember 23 = .ok (.invokevirtual 25, 3) := by decide +kernel
theorem dX2_remember_26 : decode cX2_remember 26 = .ok (.aload_n 0, 1) := by decide +kernel
theorem dX2_remember_27 : decode cX2_remember 27 = .ok (.dup, 1) := by decide +kernel
theorem dX2_remember_28 : decode cX2_remember 28 = .ok (.getfield 17, 3) := by decide +kernel
theorem dX2_remember_31 : decode cX2_remember 31 = .ok (.iconst 1, 1) := by decide +kernel
theorem dX2_remember_32 : decode cX2_remember 32 = .ok (.iadd, 1) := by decide +kernel
theorem dX2_remember_33 : decode cX2_remember 33 = .ok (.putfield 17, 3) := by decide +kernel
theorem dX2_remember_36 : decode cX2_remember 36 = .ok (.return_, 1) := by decide +kernel
theorem dX2_recall_0 : decode cX2_recall 0 = .ok (.aload_n 0, 1) := by decide +kernel
theorem dX2_recall_1 : decode cX2_recall 1 = .ok (.getfield 17, 3) := by decide +kernel
theorem dX2_recall_4 : decode cX2_recall 4 = .ok (.ifCond .ne 5, 3) := by decide +kernel
theorem dX2_recall_7 : decode cX2_recall 7 = .ok (.iconst 0, 1) := by decide +kernel
theorem dX2_recall_8 : decode cX2_recall 8 = .ok (.ireturn, 1) := by decide +kernel
theorem dX2_recall_9 : decode cX2_recall 9 = .ok (.aload_n 0, 1) := by decide +kernel
theorem dX2_recall_10 : decode cX2_recall 10 = .ok (.dup, 1) := by decide +kernel
theorem dX2_recall_11 : decode cX2_recall 11 = .ok (.getfield 17, 3) := by decide +kernel
theorem dX2_recall_14 : decode cX2_recall 14 = .ok (.iconst 1, 1) := by decide +kernel
theorem dX2_recall_15 : decode cX2_recall 15 = .ok (.isub, 1) := by decide +kernel
theorem dX2_recall_16 : decode cX2_recall 16 = .ok (.putfield 17, 3) := by decide +kernel
theorem dX2_recall_19 : decode cX2_recall 19 = .ok (.aload_n 1, 1) := by decide +kernel
theorem dX2_recall_20 : decode cX2_recall 20 = .ok (.aload_n 0, 1) := by decide +kernel
theorem dX2_recall_21 : decode cX2_recall 21 = .ok (.getfield 11, 3) := by decide +kernel
theorem dX2_recall_24 : decode cX2_recall 24 = .ok (.aload_n 0, 1) := by decide +kernel
theorem dX2_recall_25 : decode cX2_recall 25 = .ok (.getfield 17, 3) := by decide +kernel
theorem dX2_recall_28 : decode cX2_recall 28 = .ok (.aaload, 1) := by decide +kernel
theorem dX2_recall_29 : decode cX2_recall 29 = .ok (.invokevirtual 25, 3) := by decide +kernel
theorem dX2_recall_32 : decode cX2_recall 32 = .ok (.iconst 1, 1) := by decide +kernel
theorem dX2_recall_33 : decode cX2_recall 33 = .ok (.ireturn, 1) := by decide +kernel
theorem dX2_dropOldest_0 : decode cX2_dropOldest 0 = .ok (.aload_n 0, 1) := by decide +kernel
theorem dX2_dropOldest_1 : decode cX2_dropOldest 1 = .ok (.getfield 11, 3) := by decide +kernel
theorem dX2_dropOldest_4 : decode cX2_dropOldest 4 = .ok (.iconst 0, 1) := by decide +kernel
theorem dX2_dropOldest_5 : decode cX2_dropOldest 5 = .ok (.aaload, 1) := by decide +kernel
theorem dX2_dropOldest_6 : decode cX2_dropOldest 6 = .ok (.astore_n 1, 1) := by decide +kernel
theorem dX2_dropOldest_7 : decode cX2_dropOldest 7 = .ok (.iconst 1, 1) := by decide +kernel
theorem dX2_dropOldest_8 : decode cX2_dropOldest 8 = .ok (.istore_n 2, 1) := by decide +kernel
theorem dX2_dropOldest_9 : decode cX2_dropOldest 9 = .ok (.iload_n 2, 1) := by decide +kernel
theorem dX2_dropOldest_10 : decode cX2_dropOldest 10 = .ok (.bipush 8, 2) := by decide +kernel
theorem dX2_dropOldest_12 : decode cX2_dropOldest 12 = .ok (.if_icmp .ge 23, 3) := by decide +kernel
theorem dX2_dropOldest_15 : decode cX2_dropOldest 15 = .ok (.aload_n 0, 1) := by decide +kernel
theorem dX2_dropOldest_16 : decode cX2_dropOldest 16 = .ok (.getfield 11, 3) := by decide +kernel
theorem dX2_dropOldest_19 : decode cX2_dropOldest 19 = .ok (.iload_n 2, 1) := by decide +kernel
theorem dX2_dropOldest_20 : decode cX2_dropOldest 20 = .ok (.iconst 1, 1) := by decide +kernel
theorem dX2_dropOldest_21 : decode cX2_dropOldest 21 = .ok (.isub, 1) := by decide +kernel
theorem dX2_dropOldest_22 : decode cX2_dropOldest 22 = .ok (.aload_n 0, 1) := by decide +kernel
theorem dX2_dropOldest_23 : decode cX2_dropOldest 23 = .ok (.getfield 11, 3) := by decide +kernel
theorem dX2_dropOldest_26 : decode cX2_dropOldest 26 = .ok (.iload_n 2, 1) := by decide +kernel
theorem dX2_dropOldest_27 : decode cX2_dropOldest 27 = .ok (.aaload, 1) := by decide +kernel
theorem dX2_dropOldest_28 : decode cX2_dropOldest 28 = .ok (.aastore, 1) := by decide +kernel
theorem dX2_dropOldest_29 : decode cX2_dropOldest 29 = .ok (.iinc 2 1, 3) := by decide +kernel
theorem dX2_dropOldest_32 : decode cX2_dropOldest 32 = .ok (.goto (-23), 3) := by decide +kernel
theorem dX2_dropOldest_35 : decode cX2_dropOldest 35 = .ok (.aload_n 0, 1) := by decide +kernel
theorem dX2_dropOldest_36 : decode cX2_dropOldest 36 = .ok (.getfield 11, 3) := by decide +kernel
theorem dX2_dropOldest_39 : decode cX2_dropOldest 39 = .ok (.bipush 7, 2) := by decide +kernel
theorem dX2_dropOldest_41 : decode cX2_dropOldest 41 = .ok (.aload_n 1, 1) := by decide +kernel
theorem dX2_dropOldest_42 : decode cX2_dropOldest 42 = .ok (.aastore, 1) := by decide +kernel
theorem dX2_dropOldest_43 : decode cX2_dropOldest 43 = .ok (.aload_n 0, 1) := by decide +kernel
theorem dX2_dropOldest_44 : decode cX2_dropOldest 44 = .ok (.bipush 7, 2) := by decide +kernel
theorem dX2_dropOldest_46 : decode cX2_dropOldest 46 = .ok (.putfield 17, 3) := by decide +kernel
theorem dX2_dropOldest_49 : decode cX2_dropOldest 49 = .ok (.return_, 1) := by decide +kernel
theorem dX3_init_0 : decode cX3_init 0 = .ok (.aload_n 0, 1) := by decide +kernel
theorem dX3_init_1 : decode cX3_init 1 = .ok (.invokespecial 3, 3) := by decide +kernel
theorem dX3_init_4 : decode cX3_init 4 = .ok (.aload_n 0, 1) := by decide +kernel
theorem dX3_init_5 : decode cX3_init 5 = .ok (.iconst 4, 1) := by decide +kernel
theorem dX3_init_6 : decode cX3_init 6 = .ok (.putfield 9, 3) := by decide +kernel
theorem dX3_init_9 : decode cX3_init 9 = .ok (.aload_n 0, 1) := by decide +kernel
theorem dX3_init_10 : decode cX3_init 10 = .ok (.iconst 4, 1) := by decide +kernel
theorem dX3_init_11 : decode cX3_init 11 = .ok (.putfield 15, 3) := by decide +kernel
theorem dX3_init_14 : decode cX3_init 14 = .ok (.aload_n 0, 1) := by decide +kernel
theorem dX3_init_15 : decode cX3_init 15 = .ok (.iconst 4, 1) := by decide +kernel
theorem dX3_init_16 : decode cX3_init 16 = .ok (.putfield 18, 3) := by decide +kernel
theorem dX3_init_19 : decode cX3_init 19 = .ok (.aload_n 0, 1) := by decide +kernel
theorem dX3_init_20 : decode cX3_init 20 = .ok (.iconst 0, 1) := by decide +kernel
theorem dX3_init_21 : decode cX3_init 21 = .ok (.putfield 21, 3) := by decide +kernel
theorem dX3_init_24 : decode cX3_init 24 = .ok (.aload_n 0, 1) := by decide +kernel
theorem dX3_init_25 : decode cX3_init 25 = .ok (.iconst 0, 1) := by decide +kernel
theorem dX3_init_26 : decode cX3_init 26 = .ok (.putfield 24, 3) := by decide +kernel
theorem dX3_init_29 : decode cX3_init 29 = .ok (.aload_n 0, 1) := by decide +kernel
theorem dX3_init_30 : decode cX3_init 30 = .ok (.iconst 2, 1) := by decide +kernel
theorem dX3_init_31 : decode cX3_init 31 = .ok (.anewarray 27, 3) := by decide +kernel
theorem dX3_init_34 : decode cX3_init 34 = .ok (.dup, 1) := by decide +kernel
theorem dX3_init_35 : decode cX3_init 35 = .ok (.iconst 0, 1) := by decide +kernel
theorem dX3_init_36 : decode cX3_init 36 = .ok (.new 27, 3) := by decide +kernel
theorem dX3_init_39 : decode cX3_init 39 = .ok (.dup, 1) := by decide +kernel
theorem dX3_init_40 : decode cX3_init 40 = .ok (.invokespecial 29, 3) := by decide +kernel
theorem dX3_init_43 : decode cX3_init 43 = .ok (.aastore, 1) := by decide +kernel
theorem dX3_init_44 : decode cX3_init 44 = .ok (.dup, 1) := by decide +kernel
theorem dX3_init_45 : decode cX3_init 45 = .ok (.iconst 1, 1) := by decide +kernel
theorem dX3_init_46 : decode cX3_init 46 = .ok (.new 27, 3) := by decide +kernel
theorem dX3_init_49 : decode cX3_init 49 = .ok (.dup, 1) := by decide +kernel
theorem dX3_init_50 : decode cX3_init 50 = .ok (.invokespecial 29, 3) := by decide +kernel
theorem dX3_init_53 : decode cX3_init 53 = .ok (.aastore, 1) := by decide +kernel
theorem dX3_init_54 : decode cX3_init 54 = .ok (.putfield 30, 3) := by decide +kernel
theorem dX3_init_57 : decode cX3_init 57 = .ok (.return_, 1) := by decide +kernel
theorem dX3_startAnew_0 : decode cX3_startAnew 0 = .ok (.aload_n 0, 1) := by decide +kernel
theorem dX3_startAnew_1 : decode cX3_startAnew 1 = .ok (.iload_n 1, 1) := by decide +kernel
theorem dX3_startAnew_2 : decode cX3_startAnew 2 = .ok (.putfield 9, 3) := by decide +kernel
theorem dX3_startAnew_5 : decode cX3_startAnew 5 = .ok (.aload_n 0, 1) := by decide +kernel
theorem dX3_startAnew_6 : decode cX3_startAnew 6 = .ok (.iload_n 2, 1) := by decide +kernel
theorem dX3_startAnew_7 : decode cX3_startAnew 7 = .ok (.putfield 15, 3) := by decide +kernel
theorem dX3_startAnew_10 : decode cX3_startAnew 10 = .ok (.aload_n 0, 1) := by decide +kernel
theorem dX3_startAnew_11 : decode cX3_startAnew 11 = .ok (.iconst 4, 1) := by decide +kernel
theorem dX3_startAnew_12 : decode cX3_startAnew 12 = .ok (.putfield 18, 3) := by decide +kernel
theorem dX3_startAnew_15 : decode cX3_startAnew 15 = .ok (.aload_n 0, 1) := by decide +kernel
theorem dX3_startAnew_16 : decode cX3_startAnew 16 = .ok (.iconst 0, 1) := by decide +kernel
theorem dX3_startAnew_17 : decode cX3_startAnew 17 = .ok (.putfield 21, 3) := by decide +kernel
theorem dX3_startAnew_20 : decode cX3_startAnew 20 = .ok (.aload_n 0, 1) := by decide +kernel
theorem dX3_startAnew_21 : decode cX3_startAnew 21 = .ok (.iconst 0, 1) := by decide +kernel
theorem dX3_startAnew_22 : decode cX3_startAnew 22 = .ok (.putfield 24, 3) := by decide +kernel
theorem dX3_startAnew_25 : decode cX3_startAnew 25 = .ok (.iconst 0, 1) := by decide +kernel
theorem dX3_startAnew_26 : decode cX3_startAnew 26 = .ok (.istore_n 3, 1) := by decide +kernel
theorem dX3_startAnew_27 : decode cX3_startAnew 27 = .ok (.iload_n 3, 1) := by decide +kernel
theorem dX3_startAnew_28 : decode cX3_startAnew 28 = .ok (.iconst 2, 1) := by decide +kernel
theorem dX3_startAnew_29 : decode cX3_startAnew 29 = .ok (.if_icmp .ge 19, 3) := by decide +kernel
theorem dX3_startAnew_32 : decode cX3_startAnew 32 = .ok (.aload_n 0, 1) := by decide +kernel
theorem dX3_startAnew_33 : decode cX3_startAnew 33 = .ok (.getfield 30, 3) := by decide +kernel
theorem dX3_startAnew_36 : decode cX3_startAnew 36 = .ok (.iload_n 3, 1) := by decide +kernel
theorem dX3_startAnew_37 : decode cX3_startAnew 37 = .ok (.aaload, 1) := by decide +kernel
theorem dX3_startAnew_38 : decode cX3_startAnew 38 = .ok (.iconst 0, 1) := by decide +kernel
theorem dX3_startAnew_39 : decode cX3_startAnew 39 = .ok (.putfield 34, 3) := by decide +kernel
theorem dX3_startAnew_42 : decode cX3_startAnew 42 = .ok (.iinc 3 1, 3) := by decide +kernel
theorem dX3_startAnew_45 : decode cX3_startAnew 45 = .ok (.goto (-18), 3) := by decide +kernel
theorem dX3_startAnew_48 : decode cX3_startAnew 48 = .ok (.return_, 1) := by decide +kernel
theorem dX3_copyFrom_0 : decode cX3_copyFrom 0 = .ok (.aload_n 0, 1) := by decide +kernel
theorem dX3_copyFrom_1 : decode cX3_copyFrom 1 = .ok (.aload_n 1, 1) := by decide +kernel
theorem dX3_copyFrom_2 : decode cX3_copyFrom 2 = .ok (.getfield 9, 3) := by decide +kernel
theorem dX3_copyFrom_5 : decode cX3_copyFrom 5 = .ok (.putfield 9, 3) := by decide +kernel
theorem dX3_copyFrom_8 : decode cX3_copyFrom 8 = .ok (.aload_n 0, 1) := by decide +kernel
theorem dX3_copyFrom_9 : decode cX3_copyFrom 9 = .ok (.aload_n 1, 1) := by decide +kernel
theorem dX3_copyFrom_10 : decode cX3_copyFrom 10 = .ok (.getfield 15, 3) := by decide +kernel
theorem dX3_copyFrom_13 : decode cX3_copyFrom 13 = .ok (.putfield 15, 3) := by decide +kernel
theorem dX3_copyFrom_16 : decode cX3_copyFrom 16 = .ok (.aload_n 0, 1) := by decide +kernel
theorem dX3_copyFrom_17 : decode cX3_copyFrom 17 = .ok (.aload_n 1, 1) := by decide +kernel
theorem dX3_copyFrom_18 : decode cX3_copyFrom 18 = .ok (.getfield 18, 3) := by decide +kernel
theorem dX3_copyFrom_21 : decode cX3_copyFrom 21 = .ok (.putfield 18, 3) := by decide +kernel
theorem dX3_copyFrom_24 : decode cX3_copyFrom 24 = .ok (.aload_n 0, 1) := by decide +kernel
theorem dX3_copyFrom_25 : decode cX3_copyFrom 25 = .ok (.aload_n 1, 1) := by decide +kernel
theorem dX3_copyFrom_26 : decode cX3_copyFrom 26 = .ok (.getfield 21, 3) := by decide +kernel
theorem dX3_copyFrom_29 : decode cX3_copyFrom 29 = .ok (.putfield 21, 3) := by decide +kernel
theorem dX3_copyFrom_32 : decode cX3_copyFrom 32 = .ok (.aload_n 0, 1) := by decide +kernel
theorem dX3_copyFrom_33 : decode cX3_copyFrom 33 = .ok (.aload_n 1, 1) := by decide +kernel
theorem dX3_copyFrom_34 : decode cX3_copyFrom 34 = .ok (.getfield 24, 3) := by decide +kernel
theorem dX3_copyFrom_37 : decode cX3_copyFrom 37 = .ok (.putfield 24, 3) := by decide +kernel
theorem dX3_copyFrom_40 : decode cX3_copyFrom 40 = .ok (.iconst 0, 1) := by decide +kernel
theorem dX3_copyFrom_41 : decode cX3_copyFrom 41 = .ok (.istore_n 2, 1) := by decide +kernel
theorem dX3_copyFrom_42 : decode cX3_copyFrom 42 = .ok (.iload_n 2, 1) := by decide +kernel
theorem dX3_copyFrom_43 : decode cX3_copyFrom 43 = .ok (.iconst 2, 1) := by decide +kernel
theorem dX3_copyFrom_44 : decode cX3_copyFrom 44 = .ok (.if_icmp .ge 24, 3) := by decide +kernel
theorem dX3_copyFrom_47 : decode cX3_copyFrom 47 = .ok (.aload_n 0, 1) := by decide +kernel
theorem dX3_copyFrom_48 : decode cX3_copyFrom 48 = .ok (.getfield 30, 3) := by decide +kernel
theorem dX3_copyFrom_51 : decode cX3_copyFrom 51 = .ok (.iload_n 2, 1) := by decide +kernel
theorem dX3_copyFrom_52 : decode cX3_copyFrom 52 = .ok (.aaload, 1) := by decide +kernel
theorem dX3_copyFrom_53 : decode cX3_copyFrom 53 = .ok (.aload_n 1, 1) := by decide +kernel
theorem dX3_copyFrom_54 : decode cX3_copyFrom 54 = .ok (.getfield 30, 3) := by decide +kernel
theorem dX3_copyFrom_57 : decode cX3_copyFrom 57 = .ok (.iload_n 2, 1) := by decide +kernel
theorem dX3_copyFrom_58 : decode cX3_copyFrom 58 = .ok (.aaload, 1) := by decide +kernel
theorem dX3_copyFrom_59 : decode cX3_copyFrom 59 = .ok (.invokevirtual 37, 3) := by decide +kernel
theorem dX3_copyFrom_62 : decode cX3_copyFrom 62 = .ok (.iinc 2 1, 3) := by decide +kernel
theorem dX3_copyFrom_65 : decode cX3_copyFrom 65 = .ok (.goto (-23), 3) := by decide +kernel
theorem dX3_copyFrom_68 : decode cX3_copyFrom 68 = .ok (.return_, 1) := by decide +kernel
theorem dX4_init_0 : decode cX4_init 0 = .ok (.aload_n 0, 1) := by decide +kernel
theorem dX4_init_1 : decode cX4_init 1 = .ok (.invokespecial 3, 3) := by decide +kernel
theorem dX4_init_4 : decode cX4_init 4 = .ok (.aload_n 0, 1) := by decide +kernel
theorem dX4_init_5 : decode cX4_init 5 = .ok (.new 9, 3) := by decide +kernel
theorem dX4_init_8 : decode cX4_init 8 = .ok (.dup, 1) := by decide +kernel
theorem dX4_init_9 : decode cX4_init 9 = .ok (.invokespecial 11, 3) := by decide +kernel
theorem dX4_init_12 : decode cX4_init 12 = .ok (.putfield 12, 3) := by decide +kernel
theorem dX4_init_15 : decode cX4_init 15 = .ok (.aload_n 0, 1) := by decide +kernel
theorem dX4_init_16 : decode cX4_init 16 = .ok (.iconst 0, 1) := by decide +kernel
theorem dX4_init_17 : decode cX4_init 17 = .ok (.putfield 18, 3) := by decide +kernel
theorem dX4_init_20 : decode cX4_init 20 = .ok (.aload_n 0, 1) := by decide +kernel
theorem dX4_init_21 : decode cX4_init 21 = .ok (.iconst 0, 1) := by decide +kernel
theorem dX4_init_22 : decode cX4_init 22 = .ok (.putfield 22, 3) := by decide +kernel
theorem dX4_init_25 : decode cX4_init 25 = .ok (.aload_n 0, 1) := by decide +kernel
theorem dX4_init_26 : decode cX4_init 26 = .ok (.iconst (-1), 1) := by decide +kernel
theorem dX4_init_27 : decode cX4_init 27 = .ok (.putfield 25, 3) := by decide +kernel
theorem dX4_init_30 : decode cX4_init 30 = .ok (.aload_n 0, 1) := by decide +kernel
theorem dX4_init_31 : decode cX4_init 31 = .ok (.iconst 0, 1) := by decide +kernel
theorem dX4_init_32 : decode cX4_init 32 = .ok (.putfield 28, 3) := by decide +kernel
theorem dX4_init_35 : decode cX4_init 35 = .ok (.aload_n 0, 1) := by decide +kernel
theorem dX4_init_36 : decode cX4_init 36 = .ok (.aload_n 1, 1) := by decide +kernel
theorem dX4_init_37 : decode cX4_init 37 = .ok (.putfield 31, 3) := by decide +kernel
theorem dX4_init_40 : decode cX4_init 40 = .ok (.return_, 1) := by decide +kernel
theorem dX4_readAll_0 : decode cX4_readAll 0 = .ok (.aload_n 0, 1) := by decide +kernel
theorem dX4_readAll_1 : decode cX4_readAll 1 = .ok (.getfield 12, 3) := by decide +kernel
theorem dX4_readAll_4 : decode cX4_readAll 4 = .ok (.aload_n 1, 1) := by decide +kernel
theorem dX4_readAll_5 : decode cX4_readAll 5 = .ok (.invokevirtual 35, 3) := by decide +kernel
theorem dX4_readAll_8 : decode cX4_readAll 8 = .ok (.aload_n 0, 1) := by decide +kernel
theorem dX4_readAll_9 : decode cX4_readAll 9 = .ok (.iconst 0, 1) := by decide +kernel
theorem dX4_readAll_10 : decode cX4_readAll 10 = .ok (.putfield 22, 3) := by decide +kernel
theorem dX4_readAll_13 : decode cX4_readAll 13 = .ok (.aload_n 0, 1) := by decide +kernel
theorem dX4_readAll_14 : decode cX4_readAll 14 = .ok (.iconst (-1), 1) := by decide +kernel
theorem dX4_readAll_15 : decode cX4_readAll 15 = .ok (.putfield 25, 3) := by decide +kernel
theorem dX4_readAll_18 : decode cX4_readAll 18 = .ok (.aload_n 0, 1) := by decide +kernel
theorem dX4_readAll_19 : decode cX4_readAll 19 = .ok (.iconst 0, 1) := by decide +kernel
theorem dX4_readAll_20 : decode cX4_readAll 20 = .ok (.putfield 28, 3) := by decide +kernel
theorem dX4_readAll_23 : decode cX4_readAll 23 = .ok (.iconst 1, 1) := by decide +kernel
theorem dX4_readAll_24 : decode cX4_readAll 24 = .ok (.istore_n 2, 1) := by decide +kernel
theorem dX4_readAll_25 : decode cX4_readAll 25 = .ok (.iconst 0, 1) := by decide +kernel
theorem dX4_readAll_26 : decode cX4_readAll 26 = .ok (.istore_n 3, 1) := by decide +kernel
theorem dX4_readAll_27 : decode cX4_readAll 27 = .ok (.iload_n 3, 1) := by decide +kernel
theorem dX4_readAll_28 : decode cX4_readAll 28 = .ok (.bipush 14, 2) := by decide +kernel
theorem dX4_readAll_30 : decode cX4_readAll 30 = .ok (.if_icmp .ge 48, 3) := by decide +kernel
theorem dX4_readAll_33 : decode cX4_readAll 33 = .ok (.iload_n 2, 1) := by decide +kernel
theorem dX4_readAll_34 : decode cX4_readAll 34 = .ok (.ifCond .eq 44, 3) := by decide +kernel
theorem dX4_readAll_37 : decode cX4_readAll 37 = .ok (.aload_n 0, 1) := by decide +kernel
theorem dX4_readAll_38 : decode cX4_readAll 38 = .ok (.invokevirtual 39, 3) := by decide +kernel
theorem dX4_readAll_41 : decode cX4_readAll 41 = .ok (.aload_n 0, 1) := by decide +kernel
theorem dX4_readAll_42 : decode cX4_readAll 42 = .ok (.dup, 1) := by decide +kernel
theorem dX4_readAll_43 : decode cX4_readAll 43 = .ok (.getfield 28, 3) := by decide +kernel
theorem dX4_readAll_46 : decode cX4_readAll 46 = .ok (.iconst 1, 1) := by decide +kernel
theorem dX4_readAll_47 : decode cX4_readAll 47 = .ok (.iadd, 1) := by decide +kernel
theorem dX4_readAll_48 : decode cX4_readAll 48 = .ok (.putfield 28, 3) := by decide +kernel
theorem dX4_readAll_51 : decode cX4_readAll 51 = .ok (.aload_n 0, 1) := by decide +kernel
theorem dX4_readAll_52 : decode cX4_readAll 52 = .ok (.getfield 25, 3) := by decide +kernel
theorem dX4_readAll_55 : decode cX4_readAll 55 = .ok (.iconst (-1), 1) := by decide +kernel
theorem dX4_readAll_56 : decode cX4_readAll 56 = .ok (.if_icmp .ne 14, 3) := by decide +kernel
theorem dX4_readAll_59 : decode cX4_readAll 59 = .ok (.aload_n 0, 1) := by decide +kernel
theorem dX4_readAll_60 : decode cX4_readAll 60 = .ok (.invokevirtual 42, 3) := by decide +kernel
theorem dX4_readAll_63 : decode cX4_readAll 63 = .ok (.ifCond .eq 7, 3) := by decide +kernel
theorem dX4_readAll_66 : decode cX4_readAll 66 = .ok (.iconst 1, 1) := by decide +kernel
theorem dX4_readAll_67 : decode cX4_readAll 67 = .ok (.goto 4, 3) := by decide +kernel
theorem dX4_readAll_70 : decode cX4_readAll 70 = .ok (.iconst 0, 1) := by decide +kernel
theorem dX4_readAll_71 : decode cX4_readAll 71 = .ok (.istore_n 2, 1) := by decide +kernel
theorem dX4_readAll_72 : decode cX4_readAll 72 = .ok (.iinc 3 1, 3) := by decide +kernel
theorem dX4_readAll_75 : decode cX4_readAll 75 = .ok (.goto (-48), 3) := by decide +kernel
theorem dX4_readAll_78 : decode cX4_readAll 78 = .ok (.aload_n 0, 1) := by decide +kernel
theorem dX4_readAll_79 : decode cX4_readAll 79 = .ok (.getfield 25, 3) := by decide +kernel
theorem dX4_readAll_82 : decode cX4_readAll 82 = .ok (.ireturn, 1) := by decide +kernel
theorem dX4_readLink_0 : decode cX4_readLink 0 = .ok (.aload_n 0, 1) := by decide +kernel
theorem dX4_readLink_1 : decode cX4_readLink 1 = .ok (.invokevirtual 46, 3) := by decide +kernel
theorem dX4_readLink_4 : decode cX4_readLink 4 = .ok (.aload_n 0, 1) := by decide +kernel
theorem dX4_readLink_5 : decode cX4_readLink 5 = .ok (.getfield 18, 3) := by decide +kernel
theorem dX4_readLink_8 : decode cX4_readLink 8 = .ok (.aload_n 0, 1) := by decide +kernel
theorem dX4_readLink_9 : decode cX4_readLink 9 = .ok (.getfield 31, 3) := by decide +kernel
theorem dX4_readLink_12 : decode cX4_readLink 12 = .ok (.getfield 49, 3) := by decide +kernel
theorem dX4_readLink_15 : decode cX4_readLink 15 = .ok (.if_icmp .lt 5, 3) := by decide +kernel
theorem dX4_readLink_18 : decode cX4_readLink 18 = .ok (.iconst 0, 1) := by decide +kernel
theorem dX4_readLink_19 : decode cX4_readLink 19 = .ok (.ireturn, 1) := by decide +kernel
theorem dX4_readLink_20 : decode cX4_readLink 20 = .ok (.aload_n 0, 1) := by decide +kernel
theorem dX4_readLink_21 : decode cX4_readLink 21 = .ok (.getfield 28, 3) := by decide +kernel
theorem dX4_readLink_24 : decode cX4_readLink 24 = .ok (.bipush 14, 2) := by decide +kernel
theorem dX4_readLink_26 : decode cX4_readLink 26 = .ok (.if_icmp .ge 23, 3) := by decide +kernel
theorem dX4_readLink_29 : decode cX4_readLink 29 = .ok (.aload_n 0, 1) := by decide +kernel
theorem dX4_readLink_30 : decode cX4_readLink 30 = .ok (.getfield 31, 3) := by decide +kernel
theorem dX4_readLink_33 : decode cX4_readLink 33 = .ok (.ldc 54, 2) := by decide +kernel
theorem dX4_readLink_35 : decode cX4_readLink 35 = .ok (.aload_n 0, 1) := by decide +kernel
theorem dX4_readLink_36 : decode cX4_readLink 36 = .ok (.getfield 18, 3) := by decide +kernel
theorem dX4_readLink_39 : decode cX4_readLink 39 = .ok (.aload_n 0, 1) := by decide +kernel
theorem dX4_readLink_40 : decode cX4_readLink 40 = .ok (.getfield 22, 3) := by decide +kernel
theorem dX4_readLink_43 : decode cX4_readLink 43 = .ok (.invokevirtual 56, 3) := by decide +kernel
theorem dX4_readLink_46 : decode cX4_readLink 46 = .ok (.ifCond .ne 13, 3) := by decide +kernel
theorem dX4_readLink_49 : decode cX4_readLink 49 = .ok (.aload_n 0, 1) := by decide +kernel
theorem dX4_readLink_50 : decode cX4_readLink 50 = .ok (.aload_n 0, 1) := by decide +kernel
theorem dX4_readLink_51 : decode cX4_readLink 51 = .ok (.getfield 18, 3) := by decide +kernel
theorem dX4_readLink_54 : decode cX4_readLink 54 = .ok (.putfield 25, 3) := by decide +kernel
theorem dX4_readLink_57 : decode cX4_readLink 57 = .ok (.iconst 0, 1) := by decide +kernel
theorem dX4_readLink_58 : decode cX4_readLink 58 = .ok (.ireturn, 1) := by decide +kernel
theorem dX4_readLink_59 : decode cX4_readLink 59 = .ok (.iconst 1, 1) := by decide +kernel
theorem dX4_readLink_60 : decode cX4_readLink 60 = .ok (.ireturn, 1) := by decide +kernel
theorem dX4_readClause_0 : decode cX4_readClause 0 = .ok (.aload_n 0, 1) := by decide +kernel
theorem dX4_readClause_1 : decode cX4_readClause 1 = .ok (.invokevirtual 46, 3) := by decide +kernel
theorem dX4_readClause_4 : decode cX4_readClause 4 = .ok (.aload_n 0, 1) := by decide +kernel
theorem dX4_readClause_5 : decode cX4_readClause 5 = .ok (.getfield 31, 3) := by decide +kernel
theorem dX4_readClause_8 : decode cX4_readClause 8 = .ok (.ldc 60, 2) := by decide +kernel
theorem dX4_readClause_10 : decode cX4_readClause 10 = .ok (.aload_n 0, 1) := by decide +kernel
theorem dX4_readClause_11 : decode cX4_readClause 11 = .ok (.getfield 18, 3) := by decide +kernel
theorem dX4_readClause_14 : decode cX4_readClause 14 = .ok (.aload_n 0, 1) := by decide +kernel
theorem dX4_readClause_15 : decode cX4_readClause 15 = .ok (.getfield 22, 3) := by decide +kernel
theorem dX4_readClause_18 : decode cX4_readClause 18 = .ok (.invokevirtual 56, 3) := by decide +kernel
theorem dX4_readClause_21 : decode cX4_readClause 21 = .ok (.ifCond .eq 10, 3) := by decide +kernel
theorem dX4_readClause_24 : decode cX4_readClause 24 = .ok (.aload_n 0, 1) := by decide +kernel
theorem dX4_readClause_25 : decode cX4_readClause 25 = .ok (.invokevirtual 62, 3) := by decide +kernel
theorem dX4_readClause_28 : decode cX4_readClause 28 = .ok (.goto 92, 3) := by decide +kernel
theorem dX4_readClause_31 : decode cX4_readClause 31 = .ok (.aload_n 0, 1) := by decide +kernel
theorem dX4_readClause_32 : decode cX4_readClause 32 = .ok (.getfield 31, 3) := by decide +kernel
theorem dX4_readClause_35 : decode cX4_readClause 35 = .ok (.ldc 65, 2) := by decide +kernel
theorem dX4_readClause_37 : decode cX4_readClause 37 = .ok (.aload_n 0, 1) := by decide +kernel
theorem dX4_readClause_38 : decode cX4_readClause 38 = .ok (.getfield 18, 3) := by decide +kernel
theorem dX4_readClause_41 : decode cX4_readClause 41 = .ok (.aload_n 0, 1) := by decide +kernel
theorem dX4_readClause_42 : decode cX4_readClause 42 = .ok (.getfield 22, 3) := by decide +kernel
theorem dX4_readClause_45 : decode cX4_readClause 45 = .ok (.invokevirtual 56, 3) := by decide +kernel
theorem dX4_readClause_48 : decode cX4_readClause 48 = .ok (.ifCond .eq 10, 3) := by decide +kernel
theorem dX4_readClause_51 : decode cX4_readClause 51 = .ok (.aload_n 0, 1) := by decide +kernel
theorem dX4_readClause_52 : decode cX4_readClause 52 = .ok (.invokevirtual 67, 3) := by decide +kernel
theorem dX4_readClause_55 : decode cX4_readClause 55 = .ok (.goto 65, 3) := by decide +kernel
theorem dX4_readClause_58 : decode cX4_readClause 58 = .ok (.aload_n 0, 1) := by decide +kernel
theorem dX4_readClause_59 : decode cX4_readClause 59 = .ok (.getfield 31, 3) := by decide +kernel
theorem dX4_readClause_62 : decode cX4_readClause 62 = .ok (.ldc 70, 2) := by decide +kernel
theorem dX4_readClause_64 : decode cX4_readClause 64 = .ok (.aload_n 0, 1) := by decide +kernel
theorem dX4_readClause_65 : decode cX4_readClause 65 = .ok (.getfield 18, 3) := by decide +kernel
theorem dX4_readClause_68 : decode cX4_readClause 68 = .ok (.aload_n 0, 1) := by decide +kernel
theorem dX4_readClause_69 : decode cX4_readClause 69 = .ok (.getfield 22, 3) := by decide +kernel
theorem dX4_readClause_72 : decode cX4_readClause 72 = .ok (.invokevirtual 56, 3) := by decide +kernel
theorem dX4_readClause_75 : decode cX4_readClause 75 = .ok (.ifCond .eq 10, 3) := by decide +kernel
theorem dX4_readClause_78 : decode cX4_readClause 78 = .ok (.aload_n 0, 1) := by decide +kernel
theorem dX4_readClause_79 : decode cX4_readClause 79 = .ok (.invokevirtual 72, 3) := by decide +kernel
theorem dX4_readClause_82 : decode cX4_readClause 82 = .ok (.goto 38, 3) := by decide +kernel
theorem dX4_readClause_85 : decode cX4_readClause 85 = .ok (.aload_n 0, 1) := by decide +kernel
theorem dX4_readClause_86 : decode cX4_readClause 86 = .ok (.getfield 31, 3) := by decide +kernel
theorem dX4_readClause_89 : decode cX4_readClause 89 = .ok (.ldc 75, 2) := by decide +kernel
theorem dX4_readClause_91 : decode cX4_readClause 91 = .ok (.aload_n 0, 1) := by decide +kernel
theorem dX4_readClause_92 : decode cX4_readClause 92 = .ok (.getfield 18, 3) := by decide +kernel
theorem dX4_readClause_95 : decode cX4_readClause 95 = .ok (.aload_n 0, 1) := by decide +kernel
theorem dX4_readClause_96 : decode cX4_readClause 96 = .ok (.getfield 22, 3) := by decide +kernel
theorem dX4_readClause_99 : decode cX4_readClause 99 = .ok (.invokevirtual 56, 3) := by decide +kernel
theorem dX4_readClause_102 : decode cX4_readClause 102 = .ok (.ifCond .eq 10, 3) := by decide +kernel
theorem dX4_readClause_105 : decode cX4_readClause 105 = .ok (.aload_n 0, 1) := by decide +kernel
theorem dX4_readClause_106 : decode cX4_readClause 106 = .ok (.invokevirtual 77, 3) := by decide +kernel
theorem dX4_readClause_109 : decode cX4_readClause 109 = .ok (.goto 11, 3) := by decide +kernel
theorem dX4_readClause_112 : decode cX4_readClause 112 = .ok (.aload_n 0, 1) := by decide +kernel
theorem dX4_readClause_113 : decode cX4_readClause 113 = .ok (.aload_n 0, 1) := by decide +kernel
theorem dX4_readClause_114 : decode cX4_readClause 114 = .ok (.invokevirtual 80, 3) := by decide +kernel
theorem dX4_readClause_117 : decode cX4_readClause 117 = .ok (.invokevirtual 84, 3) := by decide +kernel
theorem dX4_readClause_120 : decode cX4_readClause 120 = .ok (.return_, 1) := by decide +kernel
theorem dX4_readGround_0 : decode cX4_readGround 0 = .ok (.aload_n 0, 1) := by decide +kernel
theorem dX4_readGround_1 : decode cX4_readGround 1 = .ok (.iconst 2, 1) := by decide +kernel
theorem dX4_readGround_2 : decode cX4_readGround 2 = .ok (.bipush 6, 2) := by decide +kernel
theorem dX4_readGround_4 : decode cX4_readGround 4 = .ok (.invokevirtual 88, 3) := by decide +kernel
theorem dX4_readGround_7 : decode cX4_readGround 7 = .ok (.istore_n 1, 1) := by decide +kernel
theorem dX4_readGround_8 : decode cX4_readGround 8 = .ok (.aload_n 0, 1) := by decide +kernel
theorem dX4_readGround_9 : decode cX4_readGround 9 = .ok (.iconst 2, 1) := by decide +kernel
theorem dX4_readGround_10 : decode cX4_readGround 10 = .ok (.bipush 6, 2) := by decide +kernel
theorem dX4_readGround_12 : decode cX4_readGround 12 = .ok (.invokevirtual 88, 3) := by decide +kernel
theorem dX4_readGround_15 : decode cX4_readGround 15 = .ok (.istore_n 2, 1) := by decide +kernel
theorem dX4_readGround_16 : decode cX4_readGround 16 = .ok (.aload_n 0, 1) := by decide +kernel
theorem dX4_readGround_17 : decode cX4_readGround 17 = .ok (.getfield 25, 3) := by decide +kernel
theorem dX4_readGround_20 : decode cX4_readGround 20 = .ok (.iconst (-1), 1) := by decide +kernel
theorem dX4_readGround_21 : decode cX4_readGround 21 = .ok (.if_icmp .ne 12, 3) := by decide +kernel
theorem dX4_readGround_24 : decode cX4_readGround 24 = .ok (.aload_n 0, 1) := by decide +kernel
theorem dX4_readGround_25 : decode cX4_readGround 25 = .ok (.getfield 12, 3) := by decide +kernel
theorem dX4_readGround_28 : decode cX4_readGround 28 = .ok (.iload_n 1, 1) := by decide +kernel
theorem dX4_readGround_29 : decode cX4_readGround 29 = .ok (.iload_n 2, 1) := by decide +kernel
theorem dX4_readGround_30 : decode cX4_readGround 30 = .ok (.invokevirtual 92, 3) := by decide +kernel
theorem dX4_readGround_33 : decode cX4_readGround 33 = .ok (.return_, 1) := by decide +kernel
theorem dX4_readStand_0 : decode cX4_readStand 0 = .ok (.aload_n 0, 1) := by decide +kernel
theorem dX4_readStand_1 : decode cX4_readStand 1 = .ok (.iconst 0, 1) := by decide +kernel
theorem dX4_readStand_2 : decode cX4_readStand 2 = .ok (.aload_n 0, 1) := by decide +kernel
theorem dX4_readStand_3 : decode cX4_readStand 3 = .ok (.getfield 12, 3) := by decide +kernel
theorem dX4_readStand_6 : decode cX4_readStand 6 = .ok (.getfield 96, 3) := by decide +kernel
theorem dX4_readStand_9 : decode cX4_readStand 9 = .ok (.aload_n 0, 1) := by decide +kernel
theorem dX4_readStand_10 : decode cX4_readStand 10 = .ok (.getfield 12, 3) := by decide +kernel
theorem dX4_readStand_13 : decode cX4_readStand 13 = .ok (.getfield 99, 3) := by decide +kernel
theorem dX4_readStand_16 : decode cX4_readStand 16 = .ok (.imul, 1) := by decide +kernel
theorem dX4_readStand_17 : decode cX4_readStand 17 = .ok (.iconst 1, 1) := by decide +kernel
theorem dX4_readStand_18 : decode cX4_readStand 18 = .ok (.isub, 1) := by decide +kernel
theorem dX4_readStand_19 : decode cX4_readStand 19 = .ok (.invokevirtual 88, 3) := by decide +kernel
theorem dX4_readStand_22 : decode cX4_readStand 22 = .ok (.istore_n 1, 1) := by decide +kernel
theorem dX4_readStand_23 : decode cX4_readStand 23 = .ok (.aload_n 0, 1) := by decide +kernel
theorem dX4_readStand_24 : decode cX4_readStand 24 = .ok (.iconst 0, 1) := by decide +kernel
theorem dX4_readStand_25 : decode cX4_readStand 25 = .ok (.iconst 3, 1) := by decide +kernel
theorem dX4_readStand_26 : decode cX4_readStand 26 = .ok (.invokevirtual 88, 3) := by decide +kernel
theorem dX4_readStand_29 : decode cX4_readStand 29 = .ok (.istore_n 2, 1) := by decide +kernel
theorem dX4_readStand_30 : decode cX4_readStand 30 = .ok (.aload_n 0, 1) := by decide +kernel
theorem dX4_readStand_31 : decode cX4_readStand 31 = .ok (.getfield 25, 3) := by decide +kernel
theorem dX4_readStand_34 : decode cX4_readStand 34 = .ok (.iconst (-1), 1) := by decide +kernel
theorem dX4_readStand_35 : decode cX4_readStand 35 = .ok (.if_icmp .ne 19, 3) := by decide +kernel
theorem dX4_readStand_38 : decode cX4_readStand 38 = .ok (.aload_n 0, 1) := by decide +kernel
theorem dX4_readStand_39 : decode cX4_readStand 39 = .ok (.getfield 12, 3) := by decide +kernel
theorem dX4_readStand_42 : decode cX4_readStand 42 = .ok (.iload_n 1, 1) := by decide +kernel
theorem dX4_readStand_43 : decode cX4_readStand 43 = .ok (.putfield 102, 3) := by decide +kernel
theorem dX4_readStand_46 : decode cX4_readStand 46 = .ok (.aload_n 0, 1) := by decide +kernel
theorem dX4_readStand_47 : decode cX4_readStand 47 = .ok (.getfield 12, 3) := by decide +kernel
theorem dX4_readStand_50 : decode cX4_readStand 50 = .ok (.iload_n 2, 1) := by decide +kernel
theorem dX4_readStand_51 : decode cX4_readStand 51 = .ok (.putfield 105, 3) := by decide +kernel
theorem dX4_readStand_54 : decode cX4_readStand 54 = .ok (.return_, 1) := by decide +kernel
theorem dX4_readHour_0 : decode cX4_readHour 0 = .ok (.aload_n 0, 1) := by decide +kernel
theorem dX4_readHour_1 : decode cX4_readHour 1 = .ok (.iconst 2, 1) := by decide +kernel
theorem dX4_readHour_2 : decode cX4_readHour 2 = .ok (.bipush 9, 2) := by decide +kernel
theorem dX4_readHour_4 : decode cX4_readHour 4 = .ok (.invokevirtual 88, 3) := by decide +kernel
theorem dX4_readHour_7 : decode cX4_readHour 7 = .ok (.istore_n 1, 1) := by decide +kernel
theorem dX4_readHour_8 : decode cX4_readHour 8 = .ok (.aload_n 0, 1) := by decide +kernel
theorem dX4_readHour_9 : decode cX4_readHour 9 = .ok (.getfield 25, 3) := by decide +kernel
theorem dX4_readHour_12 : decode cX4_readHour 12 = .ok (.iconst (-1), 1) := by decide +kernel
theorem dX4_readHour_13 : decode cX4_readHour 13 = .ok (.if_icmp .ne 11, 3) := by decide +kernel
theorem dX4_readHour_16 : decode cX4_readHour 16 = .ok (.aload_n 0, 1) := by decide +kernel
theorem dX4_readHour_17 : decode cX4_readHour 17 = .ok (.getfield 12, 3) := by decide +kernel
theorem dX4_readHour_20 : decode cX4_readHour 20 = .ok (.iload_n 1, 1) := by decide +kernel
theorem dX4_readHour_21 : decode cX4_readHour 21 = .ok (.putfield 108, 3) := by decide +kernel
theorem dX4_readHour_24 : decode cX4_readHour 24 = .ok (.return_, 1) := by decide +kernel
theorem dX4_readRest_0 : decode cX4_readRest 0 = .ok (.aload_n 0, 1) := by decide +kernel
theorem dX4_readRest_1 : decode cX4_readRest 1 = .ok (.iconst 0, 1) := by decide +kernel
theorem dX4_readRest_2 : decode cX4_readRest 2 = .ok (.iconst 1, 1) := by decide +kernel
theorem dX4_readRest_3 : decode cX4_readRest 3 = .ok (.invokevirtual 88, 3) := by decide +kernel
theorem dX4_readRest_6 : decode cX4_readRest 6 = .ok (.istore_n 1, 1) := by decide +kernel
theorem dX4_readRest_7 : decode cX4_readRest 7 = .ok (.aload_n 0, 1) := by decide +kernel
theorem dX4_readRest_8 : decode cX4_readRest 8 = .ok (.getfield 25, 3) := by decide +kernel
theorem dX4_readRest_11 : decode cX4_readRest 11 = .ok (.iconst (-1), 1) := by decide +kernel
theorem dX4_readRest_12 : decode cX4_readRest 12 = .ok (.if_icmp .ne 16, 3) := by decide +kernel
theorem dX4_readRest_15 : decode cX4_readRest 15 = .ok (.aload_n 0, 1) := by decide +kernel
theorem dX4_readRest_16 : decode cX4_readRest 16 = .ok (.getfield 12, 3) := by decide +kernel
theorem dX4_readRest_19 : decode cX4_readRest 19 = .ok (.getfield 111, 3) := by decide +kernel
theorem dX4_readRest_22 : decode cX4_readRest 22 = .ok (.iload_n 1, 1) := by decide +kernel
theorem dX4_readRest_23 : decode cX4_readRest 23 = .ok (.aaload, 1) := by decide +kernel
theorem dX4_readRest_24 : decode cX4_readRest 24 = .ok (.iconst 0, 1) := by decide +kernel
theorem dX4_readRest_25 : decode cX4_readRest 25 = .ok (.putfield 115, 3) := by decide +kernel
theorem dX4_readRest_28 : decode cX4_readRest 28 = .ok (.return_, 1) := by decide +kernel
theorem dX4_readFigure_0 : decode cX4_readFigure 0 = .ok (.iload_n 1, 1) := by decide +kernel
theorem dX4_readFigure_1 : decode cX4_readFigure 1 = .ok (.iconst (-1), 1) := by decide +kernel
theorem dX4_readFigure_2 : decode cX4_readFigure 2 = .ok (.if_icmp .ne 12, 3) := by decide +kernel
theorem dX4_readFigure_5 : decode cX4_readFigure 5 = .ok (.aload_n 0, 1) := by decide +kernel
theorem dX4_readFigure_6 : decode cX4_readFigure 6 = .ok (.aload_n 0, 1) := by decide +kernel
theorem dX4_readFigure_7 : decode cX4_readFigure 7 = .ok (.getfield 18, 3) := by decide +kernel
theorem dX4_readFigure_10 : decode cX4_readFigure 10 = .ok (.putfield 25, 3) := by decide +kernel
theorem dX4_readFigure_13 : decode cX4_readFigure 13 = .ok (.return_, 1) := by decide +kernel
theorem dX4_readFigure_14 : decode cX4_readFigure 14 = .ok (.aload_n 0, 1) := by decide +kernel
theorem dX4_readFigure_15 : decode cX4_readFigure 15 = .ok (.iconst 0, 1) := by decide +kernel
theorem dX4_readFigure_16 : decode cX4_readFigure 16 = .ok (.iconst 1, 1) := by decide +kernel
theorem dX4_readFigure_17 : decode cX4_readFigure 17 = .ok (.invokevirtual 88, 3) := by decide +kernel
theorem dX4_readFigure_20 : decode cX4_readFigure 20 = .ok (.istore_n 2, 1) := by decide +kernel
theorem dX4_readFigure_21 : decode cX4_readFigure 21 = .ok (.aload_n 0, 1) := by decide +kernel
theorem dX4_readFigure_22 : decode cX4_readFigure 22 = .ok (.getfield 25, 3) := by decide +kernel
theorem dX4_readFigure_25 : decode cX4_readFigure 25 = .ok (.iconst (-1), 1) := by decide +kernel
theorem dX4_readFigure_26 : decode cX4_readFigure 26 = .ok (.if_icmp .ne 26, 3) := by decide +kernel
theorem dX4_readFigure_29 : decode cX4_readFigure 29 = .ok (.aload_n 0, 1) := by decide +kernel
theorem dX4_readFigure_30 : decode cX4_readFigure 30 = .ok (.getfield 12, 3) := by decide +kernel
theorem dX4_readFigure_33 : decode cX4_readFigure 33 = .ok (.getfield 111, 3) := by decide +kernel
theorem dX4_readFigure_36 : decode cX4_readFigure 36 = .ok (.iload_n 2, 1) := by decide +kernel
theorem dX4_readFigure_37 : decode cX4_readFigure 37 = .ok (.aaload, 1) := by decide +kernel
theorem dX4_readFigure_38 : decode cX4_readFigure 38 = .ok (.invokevirtual 120, 3) := by decide +kernel
theorem dX4_readFigure_41 : decode cX4_readFigure 41 = .ok (.ifCond .eq 11, 3) := by decide +kernel
theorem dX4_readFigure_44 : decode cX4_readFigure 44 = .ok (.aload_n 0, 1) := by decide +kernel
theorem dX4_readFigure_45 : decode cX4_readFigure 45 = .ok (.aload_n 0, 1) := by decide +kernel
theorem dX4_readFigure_46 : decode cX4_readFigure 46 = .ok (.getfield 18, 3) := by decide +kernel
theorem dX4_readFigure_49 : decode cX4_readFigure 49 = .ok (.putfield 25, 3) := by decide +kernel
theorem dX4_readFigure_52 : decode cX4_readFigure 52 = .ok (.aload_n 0, 1) := by decide +kernel
theorem dX4_readFigure_53 : decode cX4_readFigure 53 = .ok (.iconst 1, 1) := by decide +kernel
theorem dX4_readFigure_54 : decode cX4_readFigure 54 = .ok (.bipush 9, 2) := by decide +kernel
theorem dX4_readFigure_56 : decode cX4_readFigure 56 = .ok (.invokevirtual 88, 3) := by decide +kernel
theorem dX4_readFigure_59 : decode cX4_readFigure 59 = .ok (.istore_n 3, 1) := by decide +kernel
theorem dX4_readFigure_60 : decode cX4_readFigure 60 = .ok (.aload_n 0, 1) := by decide +kernel
theorem dX4_readFigure_61 : decode cX4_readFigure 61 = .ok (.getfield 25, 3) := by decide +kernel
theorem dX4_readFigure_64 : decode cX4_readFigure 64 = .ok (.iconst (-1), 1) := by decide +kernel
theorem dX4_readFigure_65 : decode cX4_readFigure 65 = .ok (.if_icmp .ne 17, 3) := by decide +kernel
theorem dX4_readFigure_68 : decode cX4_readFigure 68 = .ok (.aload_n 0, 1) := by decide +kernel
theorem dX4_readFigure_69 : decode cX4_readFigure 69 = .ok (.getfield 12, 3) := by decide +kernel
theorem dX4_readFigure_72 : decode cX4_readFigure 72 = .ok (.getfield 111, 3) := by decide +kernel
theorem dX4_readFigure_75 : decode cX4_readFigure 75 = .ok (.iload_n 2, 1) := by decide +kernel
theorem dX4_readFigure_76 : decode cX4_readFigure 76 = .ok (.aaload, 1) := by decide +kernel
theorem dX4_readFigure_77 : decode cX4_readFigure 77 = .ok (.iload_n 1, 1) := by decide +kernel
theorem dX4_readFigure_78 : decode cX4_readFigure 78 = .ok (.iload_n 3, 1) := by decide +kernel
theorem dX4_readFigure_79 : decode cX4_readFigure 79 = .ok (.invokevirtual 123, 3) := by decide +kernel
theorem dX4_readFigure_82 : decode cX4_readFigure 82 = .ok (.return_, 1) := by decide +kernel
theorem dX4_kindNamed_0 : decode cX4_kindNamed 0 = .ok (.aload_n 0, 1) := by decide +kernel
theorem dX4_kindNamed_1 : decode cX4_kindNamed 1 = .ok (.getfield 31, 3) := by decide +kernel
theorem dX4_kindNamed_4 : decode cX4_kindNamed 4 = .ok (.ldc 126, 2) := by decide +kernel
theorem dX4_kindNamed_6 : decode cX4_kindNamed 6 = .ok (.aload_n 0, 1) := by decide +kernel
theorem dX4_kindNamed_7 : decode cX4_kindNamed 7 = .ok (.getfield 18, 3) := by decide +kernel
theorem dX4_kindNamed_10 : decode cX4_kindNamed 10 = .ok (.aload_n 0, 1) := by decide +kernel
theorem dX4_kindNamed_11 : decode cX4_kindNamed 11 = .ok (.getfield 22, 3) := by decide +kernel
theorem dX4_kindNamed_14 : decode cX4_kindNamed 14 = .ok (.invokevirtual 56, 3) := by decide +kernel
theorem dX4_kindNamed_17 : decode cX4_kindNamed 17 = .ok (.ifCond .eq 5, 3) := by decide +kernel
