theorem dX4_kindNamed_20 : decode cX4_kindNamed 20 = .ok (.iconst 0, 1) := by decide +kernel
theorem dX4_kindNamed_21 : decode cX4_kindNamed 21 = .ok (.ireturn, 1) := by decide +kernel
theorem dX4_kindNamed_22 : decode cX4_kindNamed 22 = .ok (.aload_n 0, 1) := by decide +kernel
theorem dX4_kindNamed_23 : decode cX4_kindNamed 23 = .ok (.getfield 31, 3) := by decide +kernel
theorem dX4_kindNamed_26 : decode cX4_kindNamed 26 = .ok (.ldc 128, 2) := by decide +kernel
theorem dX4_kindNamed_28 : decode cX4_kindNamed 28 = .ok (.aload_n 0, 1) := by decide +kernel
theorem dX4_kindNamed_29 : decode cX4_kindNamed 29 = .ok (.getfield 18, 3) := by decide +kernel
theorem dX4_kindNamed_32 : decode cX4_kindNamed 32 = .ok (.aload_n 0, 1) := by decide +kernel
theorem dX4_kindNamed_33 : decode cX4_kindNamed 33 = .ok (.getfield 22, 3) := by decide +kernel
theorem dX4_kindNamed_36 : decode cX4_kindNamed 36 = .ok (.invokevirtual 56, 3) := by decide +kernel
theorem dX4_kindNamed_39 : decode cX4_kindNamed 39 = .ok (.ifCond .eq 5, 3) := by decide +kernel
theorem dX4_kindNamed_42 : decode cX4_kindNamed 42 = .ok (.iconst 1, 1) := by decide +kernel
theorem dX4_kindNamed_43 : decode cX4_kindNamed 43 = .ok (.ireturn, 1) := by decide +kernel
theorem dX4_kindNamed_44 : decode cX4_kindNamed 44 = .ok (.aload_n 0, 1) := by decide +kernel
theorem dX4_kindNamed_45 : decode cX4_kindNamed 45 = .ok (.getfield 31, 3) := by decide +kernel
theorem dX4_kindNamed_48 : decode cX4_kindNamed 48 = .ok (.ldc 130, 2) := by decide +kernel
theorem dX4_kindNamed_50 : decode cX4_kindNamed 50 = .ok (.aload_n 0, 1) := by decide +kernel
theorem dX4_kindNamed_51 : decode cX4_kindNamed 51 = .ok (.getfield 18, 3) := by decide +kernel
theorem dX4_kindNamed_54 : decode cX4_kindNamed 54 = .ok (.aload_n 0, 1) := by decide +kernel
theorem dX4_kindNamed_55 : decode cX4_kindNamed 55 = .ok (.getfield 22, 3) := by decide +kernel
theorem dX4_kindNamed_58 : decode cX4_kindNamed 58 = .ok (.invokevirtual 56, 3) := by decide +kernel
theorem dX4_kindNamed_61 : decode cX4_kindNamed 61 = .ok (.ifCond .eq 5, 3) := by decide +kernel
theorem dX4_kindNamed_64 : decode cX4_kindNamed 64 = .ok (.iconst 2, 1) := by decide +kernel
theorem dX4_kindNamed_65 : decode cX4_kindNamed 65 = .ok (.ireturn, 1) := by decide +kernel
theorem dX4_kindNamed_66 : decode cX4_kindNamed 66 = .ok (.aload_n 0, 1) := by decide +kernel
theorem dX4_kindNamed_67 : decode cX4_kindNamed 67 = .ok (.getfield 31, 3) := by decide +kernel
theorem dX4_kindNamed_70 : decode cX4_kindNamed 70 = .ok (.ldc 132, 2) := by decide +kernel
theorem dX4_kindNamed_72 : decode cX4_kindNamed 72 = .ok (.aload_n 0, 1) := by decide +kernel
theorem dX4_kindNamed_73 : decode cX4_kindNamed 73 = .ok (.getfield 18, 3) := by decide +kernel
theorem dX4_kindNamed_76 : decode cX4_kindNamed 76 = .ok (.aload_n 0, 1) := by decide +kernel
theorem dX4_kindNamed_77 : decode cX4_kindNamed 77 = .ok (.getfield 22, 3) := by decide +kernel
theorem dX4_kindNamed_80 : decode cX4_kindNamed 80 = .ok (.invokevirtual 56, 3) := by decide +kernel
theorem dX4_kindNamed_83 : decode cX4_kindNamed 83 = .ok (.ifCond .eq 5, 3) := by decide +kernel
theorem dX4_kindNamed_86 : decode cX4_kindNamed 86 = .ok (.iconst 3, 1) := by decide +kernel
theorem dX4_kindNamed_87 : decode cX4_kindNamed 87 = .ok (.ireturn, 1) := by decide +kernel
theorem dX4_kindNamed_88 : decode cX4_kindNamed 88 = .ok (.aload_n 0, 1) := by decide +kernel
theorem dX4_kindNamed_89 : decode cX4_kindNamed 89 = .ok (.getfield 31, 3) := by decide +kernel
theorem dX4_kindNamed_92 : decode cX4_kindNamed 92 = .ok (.ldc 134, 2) := by decide +kernel
theorem dX4_kindNamed_94 : decode cX4_kindNamed 94 = .ok (.aload_n 0, 1) := by decide +kernel
theorem dX4_kindNamed_95 : decode cX4_kindNamed 95 = .ok (.getfield 18, 3) := by decide +kernel
theorem dX4_kindNamed_98 : decode cX4_kindNamed 98 = .ok (.aload_n 0, 1) := by decide +kernel
theorem dX4_kindNamed_99 : decode cX4_kindNamed 99 = .ok (.getfield 22, 3) := by decide +kernel
theorem dX4_kindNamed_102 : decode cX4_kindNamed 102 = .ok (.invokevirtual 56, 3) := by decide +kernel
theorem dX4_kindNamed_105 : decode cX4_kindNamed 105 = .ok (.ifCond .eq 7, 3) := by decide +kernel
theorem dX4_kindNamed_108 : decode cX4_kindNamed 108 = .ok (.iconst 4, 1) := by decide +kernel
theorem dX4_kindNamed_109 : decode cX4_kindNamed 109 = .ok (.goto 4, 3) := by decide +kernel
theorem dX4_kindNamed_112 : decode cX4_kindNamed 112 = .ok (.iconst (-1), 1) := by decide +kernel
theorem dX4_kindNamed_113 : decode cX4_kindNamed 113 = .ok (.ireturn, 1) := by decide +kernel
theorem dX4_readNumber_0 : decode cX4_readNumber 0 = .ok (.aload_n 0, 1) := by decide +kernel
theorem dX4_readNumber_1 : decode cX4_readNumber 1 = .ok (.getfield 25, 3) := by decide +kernel
theorem dX4_readNumber_4 : decode cX4_readNumber 4 = .ok (.iconst (-1), 1) := by decide +kernel
theorem dX4_readNumber_5 : decode cX4_readNumber 5 = .ok (.if_icmp .eq 5, 3) := by decide +kernel
theorem dX4_readNumber_8 : decode cX4_readNumber 8 = .ok (.iload_n 1, 1) := by decide +kernel
theorem dX4_readNumber_9 : decode cX4_readNumber 9 = .ok (.ireturn, 1) := by decide +kernel
theorem dX4_readNumber_10 : decode cX4_readNumber 10 = .ok (.aload_n 0, 1) := by decide +kernel
theorem dX4_readNumber_11 : decode cX4_readNumber 11 = .ok (.invokevirtual 46, 3) := by decide +kernel
theorem dX4_readNumber_14 : decode cX4_readNumber 14 = .ok (.aload_n 0, 1) := by decide +kernel
theorem dX4_readNumber_15 : decode cX4_readNumber 15 = .ok (.getfield 31, 3) := by decide +kernel
theorem dX4_readNumber_18 : decode cX4_readNumber 18 = .ok (.aload_n 0, 1) := by decide +kernel
theorem dX4_readNumber_19 : decode cX4_readNumber 19 = .ok (.getfield 18, 3) := by decide +kernel
theorem dX4_readNumber_22 : decode cX4_readNumber 22 = .ok (.aload_n 0, 1) := by decide +kernel
theorem dX4_readNumber_23 : decode cX4_readNumber 23 = .ok (.getfield 22, 3) := by decide +kernel
theorem dX4_readNumber_26 : decode cX4_readNumber 26 = .ok (.invokevirtual 136, 3) := by decide +kernel
theorem dX4_readNumber_29 : decode cX4_readNumber 29 = .ok (.istore_n 3, 1) := by decide +kernel
theorem dX4_readNumber_30 : decode cX4_readNumber 30 = .ok (.iload_n 3, 1) := by decide +kernel
theorem dX4_readNumber_31 : decode cX4_readNumber 31 = .ok (.iload_n 1, 1) := by decide +kernel
theorem dX4_readNumber_32 : decode cX4_readNumber 32 = .ok (.if_icmp .lt 8, 3) := by decide +kernel
theorem dX4_readNumber_35 : decode cX4_readNumber 35 = .ok (.iload_n 3, 1) := by decide +kernel
theorem dX4_readNumber_36 : decode cX4_readNumber 36 = .ok (.iload_n 2, 1) := by decide +kernel
theorem dX4_readNumber_37 : decode cX4_readNumber 37 = .ok (.if_icmp .le 13, 3) := by decide +kernel
theorem dX4_readNumber_40 : decode cX4_readNumber 40 = .ok (.aload_n 0, 1) := by decide +kernel
theorem dX4_readNumber_41 : decode cX4_readNumber 41 = .ok (.aload_n 0, 1) := by decide +kernel
theorem dX4_readNumber_42 : decode cX4_readNumber 42 = .ok (.getfield 18, 3) := by decide +kernel
theorem dX4_readNumber_45 : decode cX4_readNumber 45 = .ok (.putfield 25, 3) := by decide +kernel
theorem dX4_readNumber_48 : decode cX4_readNumber 48 = .ok (.iload_n 1, 1) := by decide +kernel
theorem dX4_readNumber_49 : decode cX4_readNumber 49 = .ok (.ireturn, 1) := by decide +kernel
theorem dX4_readNumber_50 : decode cX4_readNumber 50 = .ok (.iload_n 3, 1) := by decide +kernel
theorem dX4_readNumber_51 : decode cX4_readNumber 51 = .ok (.ireturn, 1) := by decide +kernel
theorem dX4_nextToken_0 : decode cX4_nextToken 0 = .ok (.aload_n 0, 1) := by decide +kernel
theorem dX4_nextToken_1 : decode cX4_nextToken 1 = .ok (.aload_n 0, 1) := by decide +kernel
theorem dX4_nextToken_2 : decode cX4_nextToken 2 = .ok (.getfield 22, 3) := by decide +kernel
theorem dX4_nextToken_5 : decode cX4_nextToken 5 = .ok (.putfield 18, 3) := by decide +kernel
theorem dX4_nextToken_8 : decode cX4_nextToken 8 = .ok (.aload_n 0, 1) := by decide +kernel
theorem dX4_nextToken_9 : decode cX4_nextToken 9 = .ok (.getfield 18, 3) := by decide +kernel
theorem dX4_nextToken_12 : decode cX4_nextToken 12 = .ok (.aload_n 0, 1) := by decide +kernel
theorem dX4_nextToken_13 : decode cX4_nextToken 13 = .ok (.getfield 31, 3) := by decide +kernel
theorem dX4_nextToken_16 : decode cX4_nextToken 16 = .ok (.getfield 49, 3) := by decide +kernel
theorem dX4_nextToken_19 : decode cX4_nextToken 19 = .ok (.if_icmp .ge 30, 3) := by decide +kernel
theorem dX4_nextToken_22 : decode cX4_nextToken 22 = .ok (.aload_n 0, 1) := by decide +kernel
theorem dX4_nextToken_23 : decode cX4_nextToken 23 = .ok (.getfield 31, 3) := by decide +kernel
theorem dX4_nextToken_26 : decode cX4_nextToken 26 = .ok (.aload_n 0, 1) := by decide +kernel
theorem dX4_nextToken_27 : decode cX4_nextToken 27 = .ok (.getfield 18, 3) := by decide +kernel
theorem dX4_nextToken_30 : decode cX4_nextToken 30 = .ok (.invokevirtual 139, 3) := by decide +kernel
theorem dX4_nextToken_33 : decode cX4_nextToken 33 = .ok (.ifCond .ne 16, 3) := by decide +kernel
theorem dX4_nextToken_36 : decode cX4_nextToken 36 = .ok (.aload_n 0, 1) := by decide +kernel
theorem dX4_nextToken_37 : decode cX4_nextToken 37 = .ok (.dup, 1) := by decide +kernel
theorem dX4_nextToken_38 : decode cX4_nextToken 38 = .ok (.getfield 18, 3) := by decide +kernel
theorem dX4_nextToken_41 : decode cX4_nextToken 41 = .ok (.iconst 1, 1) := by decide +kernel
theorem dX4_nextToken_42 : decode cX4_nextToken 42 = .ok (.iadd, 1) := by decide +kernel
theorem dX4_nextToken_43 : decode cX4_nextToken 43 = .ok (.putfield 18, 3) := by decide +kernel
theorem dX4_nextToken_46 : decode cX4_nextToken 46 = .ok (.goto (-38), 3) := by decide +kernel
theorem dX4_nextToken_49 : decode cX4_nextToken 49 = .ok (.aload_n 0, 1) := by decide +kernel
theorem dX4_nextToken_50 : decode cX4_nextToken 50 = .ok (.aload_n 0, 1) := by decide +kernel
theorem dX4_nextToken_51 : decode cX4_nextToken 51 = .ok (.getfield 18, 3) := by decide +kernel
theorem dX4_nextToken_54 : decode cX4_nextToken 54 = .ok (.iconst 1, 1) := by decide +kernel
theorem dX4_nextToken_55 : decode cX4_nextToken 55 = .ok (.iadd, 1) := by decide +kernel
theorem dX4_nextToken_56 : decode cX4_nextToken 56 = .ok (.aload_n 0, 1) := by decide +kernel
theorem dX4_nextToken_57 : decode cX4_nextToken 57 = .ok (.getfield 31, 3) := by decide +kernel
theorem dX4_nextToken_60 : decode cX4_nextToken 60 = .ok (.getfield 49, 3) := by decide +kernel
theorem dX4_nextToken_63 : decode cX4_nextToken 63 = .ok (.invokestatic 143, 3) := by decide +kernel
theorem dX4_nextToken_66 : decode cX4_nextToken 66 = .ok (.putfield 22, 3) := by decide +kernel
theorem dX4_nextToken_69 : decode cX4_nextToken 69 = .ok (.aload_n 0, 1) := by decide +kernel
theorem dX4_nextToken_70 : decode cX4_nextToken 70 = .ok (.getfield 31, 3) := by decide +kernel
theorem dX4_nextToken_73 : decode cX4_nextToken 73 = .ok (.aload_n 0, 1) := by decide +kernel
theorem dX4_nextToken_74 : decode cX4_nextToken 74 = .ok (.getfield 18, 3) := by decide +kernel
theorem dX4_nextToken_77 : decode cX4_nextToken 77 = .ok (.invokevirtual 139, 3) := by decide +kernel
theorem dX4_nextToken_80 : decode cX4_nextToken 80 = .ok (.istore_n 1, 1) := by decide +kernel
theorem dX4_nextToken_81 : decode cX4_nextToken 81 = .ok (.iload_n 1, 1) := by decide +kernel
theorem dX4_nextToken_82 : decode cX4_nextToken 82 = .ok (.iconst 1, 1) := by decide +kernel
theorem dX4_nextToken_83 : decode cX4_nextToken 83 = .ok (.if_icmp .eq 8, 3) := by decide +kernel
theorem dX4_nextToken_86 : decode cX4_nextToken 86 = .ok (.iload_n 1, 1) := by decide +kernel
theorem dX4_nextToken_87 : decode cX4_nextToken 87 = .ok (.iconst 2, 1) := by decide +kernel
theorem dX4_nextToken_88 : decode cX4_nextToken 88 = .ok (.if_icmp .ne 7, 3) := by decide +kernel
theorem dX4_nextToken_91 : decode cX4_nextToken 91 = .ok (.iconst 1, 1) := by decide +kernel
theorem dX4_nextToken_92 : decode cX4_nextToken 92 = .ok (.goto 4, 3) := by decide +kernel
theorem dX4_nextToken_95 : decode cX4_nextToken 95 = .ok (.iconst 0, 1) := by decide +kernel
theorem dX4_nextToken_96 : decode cX4_nextToken 96 = .ok (.istore_n 2, 1) := by decide +kernel
theorem dX4_nextToken_97 : decode cX4_nextToken 97 = .ok (.iload_n 2, 1) := by decide +kernel
theorem dX4_nextToken_98 : decode cX4_nextToken 98 = .ok (.ifCond .eq 45, 3) := by decide +kernel
theorem dX4_nextToken_101 : decode cX4_nextToken 101 = .ok (.aload_n 0, 1) := by decide +kernel
theorem dX4_nextToken_102 : decode cX4_nextToken 102 = .ok (.getfield 22, 3) := by decide +kernel
theorem dX4_nextToken_105 : decode cX4_nextToken 105 = .ok (.aload_n 0, 1) := by decide +kernel
theorem dX4_nextToken_106 : decode cX4_nextToken 106 = .ok (.getfield 31, 3) := by decide +kernel
theorem dX4_nextToken_109 : decode cX4_nextToken 109 = .ok (.getfield 49, 3) := by decide +kernel
theorem dX4_nextToken_112 : decode cX4_nextToken 112 = .ok (.if_icmp .ge 31, 3) := by decide +kernel
theorem dX4_nextToken_115 : decode cX4_nextToken 115 = .ok (.aload_n 0, 1) := by decide +kernel
theorem dX4_nextToken_116 : decode cX4_nextToken 116 = .ok (.getfield 31, 3) := by decide +kernel
theorem dX4_nextToken_119 : decode cX4_nextToken 119 = .ok (.aload_n 0, 1) := by decide +kernel
theorem dX4_nextToken_120 : decode cX4_nextToken 120 = .ok (.getfield 22, 3) := by decide +kernel
theorem dX4_nextToken_123 : decode cX4_nextToken 123 = .ok (.invokevirtual 139, 3) := by decide +kernel
theorem dX4_nextToken_126 : decode cX4_nextToken 126 = .ok (.iload_n 1, 1) := by decide +kernel
theorem dX4_nextToken_127 : decode cX4_nextToken 127 = .ok (.if_icmp .ne 16, 3) := by decide +kernel
theorem dX4_nextToken_130 : decode cX4_nextToken 130 = .ok (.aload_n 0, 1) := by decide +kernel
theorem dX4_nextToken_131 : decode cX4_nextToken 131 = .ok (.dup, 1) := by decide +kernel
theorem dX4_nextToken_132 : decode cX4_nextToken 132 = .ok (.getfield 22, 3) := by decide +kernel
theorem dX4_nextToken_135 : decode cX4_nextToken 135 = .ok (.iconst 1, 1) := by decide +kernel
theorem dX4_nextToken_136 : decode cX4_nextToken 136 = .ok (.iadd, 1) := by decide +kernel
theorem dX4_nextToken_137 : decode cX4_nextToken 137 = .ok (.putfield 22, 3) := by decide +kernel
theorem dX4_nextToken_140 : decode cX4_nextToken 140 = .ok (.goto (-43), 3) := by decide +kernel
theorem dX4_nextToken_143 : decode cX4_nextToken 143 = .ok (.return_, 1) := by decide +kernel
theorem dX5_init_0 : decode cX5_init 0 = .ok (.aload_n 0, 1) := by decide +kernel
theorem dX5_init_1 : decode cX5_init 1 = .ok (.invokespecial 3, 3) := by decide +kernel
theorem dX5_init_4 : decode cX5_init 4 = .ok (.aload_n 0, 1) := by decide +kernel
theorem dX5_init_5 : decode cX5_init 5 = .ok (.bipush 6, 2) := by decide +kernel
theorem dX5_init_7 : decode cX5_init 7 = .ok (.newarray .int, 2) := by decide +kernel
theorem dX5_init_9 : decode cX5_init 9 = .ok (.putfield 9, 3) := by decide +kernel
theorem dX5_init_12 : decode cX5_init 12 = .ok (.aload_n 0, 1) := by decide +kernel
theorem dX5_init_13 : decode cX5_init 13 = .ok (.bipush 6, 2) := by decide +kernel
theorem dX5_init_15 : decode cX5_init 15 = .ok (.newarray .int, 2) := by decide +kernel
theorem dX5_init_17 : decode cX5_init 17 = .ok (.putfield 15, 3) := by decide +kernel
theorem dX5_init_20 : decode cX5_init 20 = .ok (.aload_n 0, 1) := by decide +kernel
theorem dX5_init_21 : decode cX5_init 21 = .ok (.iconst 0, 1) := by decide +kernel
theorem dX5_init_22 : decode cX5_init 22 = .ok (.putfield 18, 3) := by decide +kernel
theorem dX5_init_25 : decode cX5_init 25 = .ok (.return_, 1) := by decide +kernel
theorem dX5_append_0 : decode cX5_append 0 = .ok (.aload_n 0, 1) := by decide +kernel
theorem dX5_append_1 : decode cX5_append 1 = .ok (.getfield 18, 3) := by decide +kernel
theorem dX5_append_4 : decode cX5_append 4 = .ok (.bipush 6, 2) := by decide +kernel
theorem dX5_append_6 : decode cX5_append 6 = .ok (.if_icmp .lt 5, 3) := by decide +kernel
theorem dX5_append_9 : decode cX5_append 9 = .ok (.iconst 0, 1) := by decide +kernel
theorem dX5_append_10 : decode cX5_append 10 = .ok (.ireturn, 1) := by decide +kernel
theorem dX5_append_11 : decode cX5_append 11 = .ok (.aload_n 0, 1) := by decide +kernel
theorem dX5_append_12 : decode cX5_append 12 = .ok (.getfield 9, 3) := by decide +kernel
theorem dX5_append_15 : decode cX5_append 15 = .ok (.aload_n 0, 1) := by decide +kernel
theorem dX5_append_16 : decode cX5_append 16 = .ok (.getfield 18, 3) := by decide +kernel
theorem dX5_append_19 : decode cX5_append 19 = .ok (.iload_n 1, 1) := by decide +kernel
theorem dX5_append_20 : decode cX5_append 20 = .ok (.iastore, 1) := by decide +kernel
theorem dX5_append_21 : decode cX5_append 21 = .ok (.aload_n 0, 1) := by decide +kernel
theorem dX5_append_22 : decode cX5_append 22 = .ok (.getfield 15, 3) := by decide +kernel
theorem dX5_append_25 : decode cX5_append 25 = .ok (.aload_n 0, 1) := by decide +kernel
theorem dX5_append_26 : decode cX5_append 26 = .ok (.getfield 18, 3) := by decide +kernel
theorem dX5_append_29 : decode cX5_append 29 = .ok (.iload_n 2, 1) := by decide +kernel
theorem dX5_append_30 : decode cX5_append 30 = .ok (.iastore, 1) := by decide +kernel
theorem dX5_append_31 : decode cX5_append 31 = .ok (.aload_n 0, 1) := by decide +kernel
theorem dX5_append_32 : decode cX5_append 32 = .ok (.dup, 1) := by decide +kernel
theorem dX5_append_33 : decode cX5_append 33 = .ok (.getfield 18, 3) := by decide +kernel
theorem dX5_append_36 : decode cX5_append 36 = .ok (.iconst 1, 1) := by decide +kernel
theorem dX5_append_37 : decode cX5_append 37 = .ok (.iadd, 1) := by decide +kernel
theorem dX5_append_38 : decode cX5_append 38 = .ok (.putfield 18, 3) := by decide +kernel
theorem dX5_append_41 : decode cX5_append 41 = .ok (.iconst 1, 1) := by decide +kernel
theorem dX5_append_42 : decode cX5_append 42 = .ok (.ireturn, 1) := by decide +kernel
theorem dX5_areSoIn_0 : decode cX5_areSoIn 0 = .ok (.aload_n 0, 1) := by decide +kernel
theorem dX5_areSoIn_1 : decode cX5_areSoIn 1 = .ok (.invokevirtual 22, 3) := by decide +kernel
theorem dX5_areSoIn_4 : decode cX5_areSoIn 4 = .ok (.istore_n 2, 1) := by decide +kernel
theorem dX5_areSoIn_5 : decode cX5_areSoIn 5 = .ok (.iconst 1, 1) := by decide +kernel
theorem dX5_areSoIn_6 : decode cX5_areSoIn 6 = .ok (.istore_n 3, 1) := by decide +kernel
theorem dX5_areSoIn_7 : decode cX5_areSoIn 7 = .ok (.iload_n 3, 1) := by decide +kernel
theorem dX5_areSoIn_8 : decode cX5_areSoIn 8 = .ok (.iload_n 2, 1) := by decide +kernel
theorem dX5_areSoIn_9 : decode cX5_areSoIn 9 = .ok (.if_icmp .gt 28, 3) := by decide +kernel
theorem dX5_areSoIn_12 : decode cX5_areSoIn 12 = .ok (.aload_n 1, 1) := by decide +kernel
theorem dX5_areSoIn_13 : decode cX5_areSoIn 13 = .ok (.invokevirtual 26, 3) := by decide +kernel
theorem dX5_areSoIn_16 : decode cX5_areSoIn 16 = .ok (.pop, 1) := by decide +kernel
theorem dX5_areSoIn_17 : decode cX5_areSoIn 17 = .ok (.aload_n 0, 1) := by decide +kernel
theorem dX5_areSoIn_18 : decode cX5_areSoIn 18 = .ok (.aload_n 1, 1) := by decide +kernel
theorem dX5_areSoIn_19 : decode cX5_areSoIn 19 = .ok (.invokevirtual 31, 3) := by decide +kernel
theorem dX5_areSoIn_22 : decode cX5_areSoIn 22 = .ok (.iload_n 3, 1) := by decide +kernel
theorem dX5_areSoIn_23 : decode cX5_areSoIn 23 = .ok (.invokevirtual 34, 3) := by decide +kernel
theorem dX5_areSoIn_26 : decode cX5_areSoIn 26 = .ok (.ifCond .ne 5, 3) := by decide +kernel
theorem dX5_areSoIn_29 : decode cX5_areSoIn 29 = .ok (.iconst 0, 1) := by decide +kernel
theorem dX5_areSoIn_30 : decode cX5_areSoIn 30 = .ok (.ireturn, 1) := by decide +kernel
theorem dX5_areSoIn_31 : decode cX5_areSoIn 31 = .ok (.iinc 3 1, 3) := by decide +kernel
theorem dX5_areSoIn_34 : decode cX5_areSoIn 34 = .ok (.goto (-27), 3) := by decide +kernel
theorem dX5_areSoIn_37 : decode cX5_areSoIn 37 = .ok (.iconst 1, 1) := by decide +kernel
theorem dX5_areSoIn_38 : decode cX5_areSoIn 38 = .ok (.ireturn, 1) := by decide +kernel
theorem dX5_latestTime_0 : decode cX5_latestTime 0 = .ok (.iconst 0, 1) := by decide +kernel
theorem dX5_latestTime_1 : decode cX5_latestTime 1 = .ok (.istore_n 1, 1) := by decide +kernel
theorem dX5_latestTime_2 : decode cX5_latestTime 2 = .ok (.iconst 0, 1) := by decide +kernel
theorem dX5_latestTime_3 : decode cX5_latestTime 3 = .ok (.istore_n 2, 1) := by decide +kernel
theorem dX5_latestTime_4 : decode cX5_latestTime 4 = .ok (.iload_n 2, 1) := by decide +kernel
theorem dX5_latestTime_5 : decode cX5_latestTime 5 = .ok (.aload_n 0, 1) := by decide +kernel
theorem dX5_latestTime_6 : decode cX5_latestTime 6 = .ok (.getfield 18, 3) := by decide +kernel
theorem dX5_latestTime_9 : decode cX5_latestTime 9 = .ok (.if_icmp .ge 20, 3) := by decide +kernel
theorem dX5_latestTime_12 : decode cX5_latestTime 12 = .ok (.iload_n 1, 1) := by decide +kernel
theorem dX5_latestTime_13 : decode cX5_latestTime 13 = .ok (.aload_n 0, 1) := by decide +kernel
theorem dX5_latestTime_14 : decode cX5_latestTime 14 = .ok (.getfield 15, 3) := by decide +kernel
theorem dX5_latestTime_17 : decode cX5_latestTime 17 = .ok (.iload_n 2, 1) := by decide +kernel
theorem dX5_latestTime_18 : decode cX5_latestTime 18 = .ok (.iaload, 1) := by decide +kernel
theorem dX5_latestTime_19 : decode cX5_latestTime 19 = .ok (.invokestatic 38, 3) := by decide +kernel
theorem dX5_latestTime_22 : decode cX5_latestTime 22 = .ok (.istore_n 1, 1) := by decide +kernel
theorem dX5_latestTime_23 : decode cX5_latestTime 23 = .ok (.iinc 2 1, 3) := by decide +kernel
theorem dX5_latestTime_26 : decode cX5_latestTime 26 = .ok (.goto (-22), 3) := by decide +kernel
theorem dX5_latestTime_29 : decode cX5_latestTime 29 = .ok (.iload_n 1, 1) := by decide +kernel
theorem dX5_latestTime_30 : decode cX5_latestTime 30 = .ok (.ireturn, 1) := by decide +kernel
theorem dX5_agreeWith_0 : decode cX5_agreeWith 0 = .ok (.iconst 0, 1) := by decide +kernel
theorem dX5_agreeWith_1 : decode cX5_agreeWith 1 = .ok (.istore_n 3, 1) := by decide +kernel
theorem dX5_agreeWith_2 : decode cX5_agreeWith 2 = .ok (.iload_n 3, 1) := by decide +kernel
theorem dX5_agreeWith_3 : decode cX5_agreeWith 3 = .ok (.aload_n 0, 1) := by decide +kernel
theorem dX5_agreeWith_4 : decode cX5_agreeWith 4 = .ok (.getfield 18, 3) := by decide +kernel
theorem dX5_agreeWith_7 : decode cX5_agreeWith 7 = .ok (.if_icmp .ge 31, 3) := by decide +kernel
theorem dX5_agreeWith_10 : decode cX5_agreeWith 10 = .ok (.aload_n 0, 1) := by decide +kernel
theorem dX5_agreeWith_11 : decode cX5_agreeWith 11 = .ok (.getfield 15, 3) := by decide +kernel
theorem dX5_agreeWith_14 : decode cX5_agreeWith 14 = .ok (.iload_n 3, 1) := by decide +kernel
theorem dX5_agreeWith_15 : decode cX5_agreeWith 15 = .ok (.iaload, 1) := by decide +kernel
theorem dX5_agreeWith_16 : decode cX5_agreeWith 16 = .ok (.iload_n 2, 1) := by decide +kernel
theorem dX5_agreeWith_17 : decode cX5_agreeWith 17 = .ok (.if_icmp .ne 15, 3) := by decide +kernel
theorem dX5_agreeWith_20 : decode cX5_agreeWith 20 = .ok (.aload_n 0, 1) := by decide +kernel
theorem dX5_agreeWith_21 : decode cX5_agreeWith 21 = .ok (.getfield 9, 3) := by decide +kernel
theorem dX5_agreeWith_24 : decode cX5_agreeWith 24 = .ok (.iload_n 3, 1) := by decide +kernel
theorem dX5_agreeWith_25 : decode cX5_agreeWith 25 = .ok (.iaload, 1) := by decide +kernel
theorem dX5_agreeWith_26 : decode cX5_agreeWith 26 = .ok (.iload_n 1, 1) := by decide +kernel
theorem dX5_agreeWith_27 : decode cX5_agreeWith 27 = .ok (.if_icmp .eq 5, 3) := by decide +kernel
theorem dX5_agreeWith_30 : decode cX5_agreeWith 30 = .ok (.iconst 0, 1) := by decide +kernel
theorem dX5_agreeWith_31 : decode cX5_agreeWith 31 = .ok (.ireturn, 1) := by decide +kernel
theorem dX5_agreeWith_32 : decode cX5_agreeWith 32 = .ok (.iinc 3 1, 3) := by decide +kernel
theorem dX5_agreeWith_35 : decode cX5_agreeWith 35 = .ok (.goto (-33), 3) := by decide +kernel
theorem dX5_agreeWith_38 : decode cX5_agreeWith 38 = .ok (.iconst 1, 1) := by decide +kernel
theorem dX5_agreeWith_39 : decode cX5_agreeWith 39 = .ok (.ireturn, 1) := by decide +kernel
theorem dX6_init_0 : decode cX6_init 0 = .ok (.aload_n 0, 1) := by decide +kernel
theorem dX6_init_1 : decode cX6_init 1 = .ok (.invokespecial 3, 3) := by decide +kernel
theorem dX6_init_4 : decode cX6_init 4 = .ok (.aload_n 0, 1) := by decide +kernel
theorem dX6_init_5 : decode cX6_init 5 = .ok (.sipush 160, 3) := by decide +kernel
theorem dX6_init_8 : decode cX6_init 8 = .ok (.newarray .int, 2) := by decide +kernel
theorem dX6_init_10 : decode cX6_init 10 = .ok (.putfield 9, 3) := by decide +kernel
theorem dX6_init_13 : decode cX6_init 13 = .ok (.aload_n 0, 1) := by decide +kernel
theorem dX6_init_14 : decode cX6_init 14 = .ok (.iconst 0, 1) := by decide +kernel
theorem dX6_init_15 : decode cX6_init 15 = .ok (.putfield 15, 3) := by decide +kernel
theorem dX6_init_18 : decode cX6_init 18 = .ok (.return_, 1) := by decide +kernel
theorem dX6_append_0 : decode cX6_append 0 = .ok (.aload_n 0, 1) := by decide +kernel
theorem dX6_append_1 : decode cX6_append 1 = .ok (.getfield 15, 3) := by decide +kernel
theorem dX6_append_4 : decode cX6_append 4 = .ok (.sipush 160, 3) := by decide +kernel
theorem dX6_append_7 : decode cX6_append 7 = .ok (.if_icmp .lt 5, 3) := by decide +kernel
theorem dX6_append_10 : decode cX6_append 10 = .ok (.iconst 0, 1) := by decide +kernel
theorem dX6_append_11 : decode cX6_append 11 = .ok (.ireturn, 1) := by decide +kernel
theorem dX6_append_12 : decode cX6_append 12 = .ok (.aload_n 0, 1) := by decide +kernel
theorem dX6_append_13 : decode cX6_append 13 = .ok (.getfield 9, 3) := by decide +kernel
theorem dX6_append_16 : decode cX6_append 16 = .ok (.aload_n 0, 1) := by decide +kernel
theorem dX6_append_17 : decode cX6_append 17 = .ok (.getfield 15, 3) := by decide +kernel
theorem dX6_append_20 : decode cX6_append 20 = .ok (.iload_n 1, 1) := by decide +kernel
theorem dX6_append_21 : decode cX6_append 21 = .ok (.iastore, 1) := by decide +kernel
theorem dX6_append_22 : decode cX6_append 22 = .ok (.aload_n 0, 1) := by decide +kernel
theorem dX6_append_23 : decode cX6_append 23 = .ok (.dup, 1) := by decide +kernel
theorem dX6_append_24 : decode cX6_append 24 = .ok (.getfield 15, 3) := by decide +kernel
theorem dX6_append_27 : decode cX6_append 27 = .ok (.iconst 1, 1) := by decide +kernel
theorem dX6_append_28 : decode cX6_append 28 = .ok (.iadd, 1) := by decide +kernel
theorem dX6_append_29 : decode cX6_append 29 = .ok (.putfield 15, 3) := by decide +kernel
theorem dX6_append_32 : decode cX6_append 32 = .ok (.iconst 1, 1) := by decide +kernel
theorem dX6_append_33 : decode cX6_append 33 = .ok (.ireturn, 1) := by decide +kernel
theorem dX6_holds_0 : decode cX6_holds 0 = .ok (.iload_n 2, 1) := by decide +kernel
theorem dX6_holds_1 : decode cX6_holds 1 = .ok (.ifCond .lt 21, 3) := by decide +kernel
theorem dX6_holds_4 : decode cX6_holds 4 = .ok (.iload_n 3, 1) := by decide +kernel
theorem dX6_holds_5 : decode cX6_holds 5 = .ok (.aload_n 0, 1) := by decide +kernel
theorem dX6_holds_6 : decode cX6_holds 6 = .ok (.getfield 15, 3) := by decide +kernel
theorem dX6_holds_9 : decode cX6_holds 9 = .ok (.if_icmp .gt 13, 3) := by decide +kernel
theorem dX6_holds_12 : decode cX6_holds 12 = .ok (.iload_n 3, 1) := by decide +kernel
theorem dX6_holds_13 : decode cX6_holds 13 = .ok (.iload_n 2, 1) := by decide +kernel
theorem dX6_holds_14 : decode cX6_holds 14 = .ok (.isub, 1) := by decide +kernel
theorem dX6_holds_15 : decode cX6_holds 15 = .ok (.aload_n 1, 1) := by decide +kernel
theorem dX6_holds_16 : decode cX6_holds 16 = .ok (.invokevirtual 19, 3) := by decide +kernel
theorem dX6_holds_19 : decode cX6_holds 19 = .ok (.if_icmp .eq 5, 3) := by decide +kernel
theorem dX6_holds_22 : decode cX6_holds 22 = .ok (.iconst 0, 1) := by decide +kernel
theorem dX6_holds_23 : decode cX6_holds 23 = .ok (.ireturn, 1) := by decide +kernel
theorem dX6_holds_24 : decode cX6_holds 24 = .ok (.iconst 0, 1) := by decide +kernel
theorem dX6_holds_25 : decode cX6_holds 25 = .ok (.istore 4, 2) := by decide +kernel
theorem dX6_holds_27 : decode cX6_holds 27 = .ok (.iload 4, 2) := by decide +kernel
theorem dX6_holds_29 : decode cX6_holds 29 = .ok (.aload_n 1, 1) := by decide +kernel
theorem dX6_holds_30 : decode cX6_holds 30 = .ok (.invokevirtual 19, 3) := by decide +kernel
theorem dX6_holds_33 : decode cX6_holds 33 = .ok (.if_icmp .ge 29, 3) := by decide +kernel
theorem dX6_holds_36 : decode cX6_holds 36 = .ok (.aload_n 0, 1) := by decide +kernel
theorem dX6_holds_37 : decode cX6_holds 37 = .ok (.getfield 9, 3) := by decide +kernel
theorem dX6_holds_40 : decode cX6_holds 40 = .ok (.iload_n 2, 1) := by decide +kernel
theorem dX6_holds_41 : decode cX6_holds 41 = .ok (.iload 4, 2) := by decide +kernel
theorem dX6_holds_43 : decode cX6_holds 43 = .ok (.iadd, 1) := by decide +kernel
theorem dX6_holds_44 : decode cX6_holds 44 = .ok (.iaload, 1) := by decide +kernel
theorem dX6_holds_45 : decode cX6_holds 45 = .ok (.aload_n 1, 1) := by decide +kernel
theorem dX6_holds_46 : decode cX6_holds 46 = .ok (.iload 4, 2) := by decide +kernel
theorem dX6_holds_48 : decode cX6_holds 48 = .ok (.invokevirtual 24, 3) := by decide +kernel
theorem dX6_holds_51 : decode cX6_holds 51 = .ok (.if_icmp .eq 5, 3) := by decide +kernel
theorem dX6_holds_54 : decode cX6_holds 54 = .ok (.iconst 0, 1) := by decide +kernel
theorem dX6_holds_55 : decode cX6_holds 55 = .ok (.ireturn, 1) := by decide +kernel
theorem dX6_holds_56 : decode cX6_holds 56 = .ok (.iinc 4 1, 3) := by decide +kernel
theorem dX6_holds_59 : decode cX6_holds 59 = .ok (.goto (-32), 3) := by decide +kernel
theorem dX6_holds_62 : decode cX6_holds 62 = .ok (.iconst 1, 1) := by decide +kernel
theorem dX6_holds_63 : decode cX6_holds 63 = .ok (.ireturn, 1) := by decide +kernel
theorem dX6_numberIn_0 : decode cX6_numberIn 0 = .ok (.iload_n 1, 1) := by decide +kernel
theorem dX6_numberIn_1 : decode cX6_numberIn 1 = .ok (.ifCond .lt 23, 3) := by decide +kernel
theorem dX6_numberIn_4 : decode cX6_numberIn 4 = .ok (.iload_n 1, 1) := by decide +kernel
theorem dX6_numberIn_5 : decode cX6_numberIn 5 = .ok (.iload_n 2, 1) := by decide +kernel
theorem dX6_numberIn_6 : decode cX6_numberIn 6 = .ok (.if_icmp .ge 18, 3) := by decide +kernel
theorem dX6_numberIn_9 : decode cX6_numberIn 9 = .ok (.iload_n 2, 1) := by decide +kernel
theorem dX6_numberIn_10 : decode cX6_numberIn 10 = .ok (.aload_n 0, 1) := by decide +kernel
theorem dX6_numberIn_11 : decode cX6_numberIn 11 = .ok (.getfield 15, 3) := by decide +kernel
theorem dX6_numberIn_14 : decode cX6_numberIn 14 = .ok (.if_icmp .gt 10, 3) := by decide +kernel
theorem dX6_numberIn_17 : decode cX6_numberIn 17 = .ok (.iload_n 2, 1) := by decide +kernel
theorem dX6_numberIn_18 : decode cX6_numberIn 18 = .ok (.iload_n 1, 1) := by decide +kernel
theorem dX6_numberIn_19 : decode cX6_numberIn 19 = .ok (.isub, 1) := by decide +kernel
theorem dX6_numberIn_20 : decode cX6_numberIn 20 = .ok (.iconst 2, 1) := by decide +kernel
theorem dX6_numberIn_21 : decode cX6_numberIn 21 = .ok (.if_icmp .le 5, 3) := by decide +kernel
theorem dX6_numberIn_24 : decode cX6_numberIn 24 = .ok (.iconst (-1), 1) := by decide +kernel
theorem dX6_numberIn_25 : decode cX6_numberIn 25 = .ok (.ireturn, 1) := by decide +kernel
theorem dX6_numberIn_26 : decode cX6_numberIn 26 = .ok (.iconst 0, 1) := by decide +kernel
theorem dX6_numberIn_27 : decode cX6_numberIn 27 = .ok (.istore_n 3, 1) := by decide +kernel
theorem dX6_numberIn_28 : decode cX6_numberIn 28 = .ok (.iload_n 1, 1) := by decide +kernel
theorem dX6_numberIn_29 : decode cX6_numberIn 29 = .ok (.istore 4, 2) := by decide +kernel
theorem dX6_numberIn_31 : decode cX6_numberIn 31 = .ok (.iload 4, 2) := by decide +kernel
theorem dX6_numberIn_33 : decode cX6_numberIn 33 = .ok (.iload_n 2, 1) := by decide +kernel
theorem dX6_numberIn_34 : decode cX6_numberIn 34 = .ok (.if_icmp .ge 37, 3) := by decide +kernel
theorem dX6_numberIn_37 : decode cX6_numberIn 37 = .ok (.aload_n 0, 1) := by decide +kernel
theorem dX6_numberIn_38 : decode cX6_numberIn 38 = .ok (.iload 4, 2) := by decide +kernel
theorem dX6_numberIn_40 : decode cX6_numberIn 40 = .ok (.invokevirtual 28, 3) := by decide +kernel
theorem dX6_numberIn_43 : decode cX6_numberIn 43 = .ok (.iconst 2, 1) := by decide +kernel
theorem dX6_numberIn_44 : decode cX6_numberIn 44 = .ok (.if_icmp .eq 5, 3) := by decide +kernel
theorem dX6_numberIn_47 : decode cX6_numberIn 47 = .ok (.iconst (-1), 1) := by decide +kernel
theorem dX6_numberIn_48 : decode cX6_numberIn 48 = .ok (.ireturn, 1) := by decide +kernel
theorem dX6_numberIn_49 : decode cX6_numberIn 49 = .ok (.bipush 10, 2) := by decide +kernel
theorem dX6_numberIn_51 : decode cX6_numberIn 51 = .ok (.iload_n 3, 1) := by decide +kernel
theorem dX6_numberIn_52 : decode cX6_numberIn 52 = .ok (.imul, 1) := by decide +kernel
theorem dX6_numberIn_53 : decode cX6_numberIn 53 = .ok (.aload_n 0, 1) := by decide +kernel
theorem dX6_numberIn_54 : decode cX6_numberIn 54 = .ok (.getfield 9, 3) := by decide +kernel
theorem dX6_numberIn_57 : decode cX6_numberIn 57 = .ok (.iload 4, 2) := by decide +kernel
theorem dX6_numberIn_59 : decode cX6_numberIn 59 = .ok (.iaload, 1) := by decide +kernel
theorem dX6_numberIn_60 : decode cX6_numberIn 60 = .ok (.iadd, 1) := by decide +kernel
theorem dX6_numberIn_61 : decode cX6_numberIn 61 = .ok (.bipush 48, 2) := by decide +kernel
theorem dX6_numberIn_63 : decode cX6_numberIn 63 = .ok (.isub, 1) := by decide +kernel
theorem dX6_numberIn_64 : decode cX6_numberIn 64 = .ok (.istore_n 3, 1) := by decide +kernel
theorem dX6_numberIn_65 : decode cX6_numberIn 65 = .ok (.iinc 4 1, 3) := by decide +kernel
theorem dX6_numberIn_68 : decode cX6_numberIn 68 = .ok (.goto (-37), 3) := by decide +kernel
theorem dX6_numberIn_71 : decode cX6_numberIn 71 = .ok (.iload_n 3, 1) := by decide +kernel
theorem dX6_numberIn_72 : decode cX6_numberIn 72 = .ok (.ireturn, 1) := by decide +kernel
theorem dX6_sortAt_0 : decode cX6_sortAt 0 = .ok (.iload_n 1, 1) := by decide +kernel
theorem dX6_sortAt_1 : decode cX6_sortAt 1 = .ok (.ifCond .lt 11, 3) := by decide +kernel
theorem dX6_sortAt_4 : decode cX6_sortAt 4 = .ok (.iload_n 1, 1) := by decide +kernel
theorem dX6_sortAt_5 : decode cX6_sortAt 5 = .ok (.aload_n 0, 1) := by decide +kernel
theorem dX6_sortAt_6 : decode cX6_sortAt 6 = .ok (.getfield 15, 3) := by decide +kernel
theorem dX6_sortAt_9 : decode cX6_sortAt 9 = .ok (.if_icmp .lt 5, 3) := by decide +kernel
theorem dX6_sortAt_12 : decode cX6_sortAt 12 = .ok (.iconst 3, 1) := by decide +kernel
theorem dX6_sortAt_13 : decode cX6_sortAt 13 = .ok (.ireturn, 1) := by decide +kernel
theorem dX6_sortAt_14 : decode cX6_sortAt 14 = .ok (.aload_n 0, 1) := by decide +kernel
theorem dX6_sortAt_15 : decode cX6_sortAt 15 = .ok (.getfield 9, 3) := by decide +kernel
theorem dX6_sortAt_18 : decode cX6_sortAt 18 = .ok (.iload_n 1, 1) := by decide +kernel
theorem dX6_sortAt_19 : decode cX6_sortAt 19 = .ok (.iaload, 1) := by decide +kernel
theorem dX6_sortAt_20 : decode cX6_sortAt 20 = .ok (.istore_n 2, 1) := by decide +kernel
theorem dX6_sortAt_21 : decode cX6_sortAt 21 = .ok (.iload_n 2, 1) := by decide +kernel
theorem dX6_sortAt_22 : decode cX6_sortAt 22 = .ok (.bipush 97, 2) := by decide +kernel
theorem dX6_sortAt_24 : decode cX6_sortAt 24 = .ok (.if_icmp .lt 11, 3) := by decide +kernel
theorem dX6_sortAt_27 : decode cX6_sortAt 27 = .ok (.iload_n 2, 1) := by decide +kernel
theorem dX6_sortAt_28 : decode cX6_sortAt 28 = .ok (.bipush 122, 2) := by decide +kernel
theorem dX6_sortAt_30 : decode cX6_sortAt 30 = .ok (.if_icmp .gt 5, 3) := by decide +kernel
theorem dX6_sortAt_33 : decode cX6_sortAt 33 = .ok (.iconst 1, 1) := by decide +kernel
theorem dX6_sortAt_34 : decode cX6_sortAt 34 = .ok (.ireturn, 1) := by decide +kernel
theorem dX6_sortAt_35 : decode cX6_sortAt 35 = .ok (.iload_n 2, 1) := by decide +kernel
theorem dX6_sortAt_36 : decode cX6_sortAt 36 = .ok (.bipush 48, 2) := by decide +kernel
theorem dX6_sortAt_38 : decode cX6_sortAt 38 = .ok (.if_icmp .lt 11, 3) := by decide +kernel
theorem dX6_sortAt_41 : decode cX6_sortAt 41 = .ok (.iload_n 2, 1) := by decide +kernel
theorem dX6_sortAt_42 : decode cX6_sortAt 42 = .ok (.bipush 57, 2) := by decide +kernel
theorem dX6_sortAt_44 : decode cX6_sortAt 44 = .ok (.if_icmp .gt 5, 3) := by decide +kernel
theorem dX6_sortAt_47 : decode cX6_sortAt 47 = .ok (.iconst 2, 1) := by decide +kernel
theorem dX6_sortAt_48 : decode cX6_sortAt 48 = .ok (.ireturn, 1) := by decide +kernel
theorem dX6_sortAt_49 : decode cX6_sortAt 49 = .ok (.iload_n 2, 1) := by decide +kernel
theorem dX6_sortAt_50 : decode cX6_sortAt 50 = .ok (.bipush 32, 2) := by decide +kernel
theorem dX6_sortAt_52 : decode cX6_sortAt 52 = .ok (.if_icmp .ne 7, 3) := by decide +kernel
theorem dX6_sortAt_55 : decode cX6_sortAt 55 = .ok (.iconst 0, 1) := by decide +kernel
theorem dX6_sortAt_56 : decode cX6_sortAt 56 = .ok (.goto 4, 3) := by decide +kernel
theorem dX6_sortAt_59 : decode cX6_sortAt 59 = .ok (.iconst 3, 1) := by decide +kernel
theorem dX6_sortAt_60 : decode cX6_sortAt 60 = .ok (.ireturn, 1) := by decide +kernel
theorem dX7_init_0 : decode cX7_init 0 = .ok (.aload_n 0, 1) := by decide +kernel
theorem dX7_init_1 : decode cX7_init 1 = .ok (.invokespecial 1, 3) := by decide +kernel
theorem dX7_init_4 : decode cX7_init 4 = .ok (.aload_n 0, 1) := by decide +kernel
theorem dX7_init_5 : decode cX7_init 5 = .ok (.new 7, 3) := by decide +kernel
theorem dX7_init_8 : decode cX7_init 8 = .ok (.dup, 1) := by decide +kernel
theorem dX7_init_9 : decode cX7_init 9 = .ok (.invokespecial 9, 3) := by decide +kernel
theorem dX7_init_12 : decode cX7_init 12 = .ok (.putfield 10, 3) := by decide +kernel
theorem dX7_init_15 : decode cX7_init 15 = .ok (.aload_n 0, 1) := by decide +kernel
theorem dX7_init_16 : decode cX7_init 16 = .ok (.new 16, 3) := by decide +kernel
theorem dX7_init_19 : decode cX7_init 19 = .ok (.dup, 1) := by decide +kernel
theorem dX7_init_20 : decode cX7_init 20 = .ok (.invokespecial 18, 3) := by decide +kernel
theorem dX7_init_23 : decode cX7_init 23 = .ok (.putfield 19, 3) := by decide +kernel
theorem dX7_init_26 : decode cX7_init 26 = .ok (.aload_n 0, 1) := by decide +kernel
theorem dX7_init_27 : decode cX7_init 27 = .ok (.new 23, 3) := by decide +kernel
theorem dX7_init_30 : decode cX7_init 30 = .ok (.dup, 1) := by decide +kernel
theorem dX7_init_31 : decode cX7_init 31 = .ok (.aload_n 0, 1) := by decide +kernel
theorem dX7_init_32 : decode cX7_init 32 = .ok (.getfield 10, 3) := by decide +kernel
theorem dX7_init_35 : decode cX7_init 35 = .ok (.invokespecial 25, 3) := by decide +kernel
theorem dX7_init_38 : decode cX7_init 38 = .ok (.putfield 28, 3) := by decide +kernel
theorem dX7_init_41 : decode cX7_init 41 = .ok (.aload_n 0, 1) := by decide +kernel
theorem dX7_init_42 : decode cX7_init 42 = .ok (.new 32, 3) := by decide +kernel
theorem dX7_init_45 : decode cX7_init 45 = .ok (.dup, 1) := by decide +kernel
theorem dX7_init_46 : decode cX7_init 46 = .ok (.invokespecial 34, 3) := by decide +kernel
theorem dX7_init_49 : decode cX7_init 49 = .ok (.putfield 35, 3) := by decide +kernel
theorem dX7_init_52 : decode cX7_init 52 = .ok (.aload_n 0, 1) := by decide +kernel
theorem dX7_init_53 : decode cX7_init 53 = .ok (.new 32, 3) := by decide +kernel
theorem dX7_init_56 : decode cX7_init 56 = .ok (.dup, 1) := by decide +kernel
theorem dX7_init_57 : decode cX7_init 57 = .ok (.invokespecial 34, 3) := by decide +kernel
theorem dX7_init_60 : decode cX7_init 60 = .ok (.putfield 39, 3) := by decide +kernel
theorem dX7_init_63 : decode cX7_init 63 = .ok (.aload_n 0, 1) := by decide +kernel
theorem dX7_init_64 : decode cX7_init 64 = .ok (.new 42, 3) := by decide +kernel
theorem dX7_init_67 : decode cX7_init 67 = .ok (.dup, 1) := by decide +kernel
theorem dX7_init_68 : decode cX7_init 68 = .ok (.invokespecial 44, 3) := by decide +kernel
theorem dX7_init_71 : decode cX7_init 71 = .ok (.putfield 45, 3) := by decide +kernel
theorem dX7_init_74 : decode cX7_init 74 = .ok (.aload_n 0, 1) := by decide +kernel
theorem dX7_init_75 : decode cX7_init 75 = .ok (.iconst 2, 1) := by decide +kernel
theorem dX7_init_76 : decode cX7_init 76 = .ok (.anewarray 32, 3) := by decide +kernel
theorem dX7_init_79 : decode cX7_init 79 = .ok (.putfield 49, 3) := by decide +kernel
theorem dX7_init_82 : decode cX7_init 82 = .ok (.aload_n 0, 1) := by decide +kernel
theorem dX7_init_83 : decode cX7_init 83 = .ok (.iconst 2, 1) := by decide +kernel
theorem dX7_init_84 : decode cX7_init 84 = .ok (.newarray .boolean, 2) := by decide +kernel
theorem dX7_init_86 : decode cX7_init 86 = .ok (.putfield 53, 3) := by decide +kernel
theorem dX7_init_89 : decode cX7_init 89 = .ok (.aload_n 0, 1) := by decide +kernel
theorem dX7_init_90 : decode cX7_init 90 = .ok (.new 57, 3) := by decide +kernel
theorem dX7_init_93 : decode cX7_init 93 = .ok (.dup, 1) := by decide +kernel
theorem dX7_init_94 : decode cX7_init 94 = .ok (.invokespecial 59, 3) := by decide +kernel
theorem dX7_init_97 : decode cX7_init 97 = .ok (.putfield 60, 3) := by decide +kernel
theorem dX7_init_100 : decode cX7_init 100 = .ok (.iconst 0, 1) := by decide +kernel
theorem dX7_init_101 : decode cX7_init 101 = .ok (.istore_n 1, 1) := by decide +kernel
theorem dX7_init_102 : decode cX7_init 102 = .ok (.iload_n 1, 1) := by decide +kernel
theorem dX7_init_103 : decode cX7_init 103 = .ok (.iconst 2, 1) := by decide +kernel
theorem dX7_init_104 : decode cX7_init 104 = .ok (.if_icmp .ge 22, 3) := by decide +kernel
theorem dX7_init_107 : decode cX7_init 107 = .ok (.aload_n 0, 1) := by decide +kernel
theorem dX7_init_108 : decode cX7_init 108 = .ok (.getfield 49, 3) := by decide +kernel
theorem dX7_init_111 : decode cX7_init 111 = .ok (.iload_n 1, 1) := by decide +kernel
theorem dX7_init_112 : decode cX7_init 112 = .ok (.new 32, 3) := by decide +kernel
theorem dX7_init_115 : decode cX7_init 115 = .ok (.dup, 1) := by decide +kernel
theorem dX7_init_116 : decode cX7_init 116 = .ok (.invokespecial 34, 3) := by decide +kernel
theorem dX7_init_119 : decode cX7_init 119 = .ok (.aastore, 1) := by decide +kernel
theorem dX7_init_120 : decode cX7_init 120 = .ok (.iinc 1 1, 3) := by decide +kernel
theorem dX7_init_123 : decode cX7_init 123 = .ok (.goto (-21), 3) := by decide +kernel
theorem dX7_init_126 : decode cX7_init 126 = .ok (.aload_n 0, 1) := by decide +kernel
theorem dX7_init_127 : decode cX7_init 127 = .ok (.getfield 35, 3) := by decide +kernel
theorem dX7_init_130 : decode cX7_init 130 = .ok (.aload_n 0, 1) := by decide +kernel
theorem dX7_init_131 : decode cX7_init 131 = .ok (.getfield 19, 3) := by decide +kernel
theorem dX7_init_134 : decode cX7_init 134 = .ok (.invokevirtual 64, 3) := by decide +kernel
theorem dX7_init_137 : decode cX7_init 137 = .ok (.return_, 1) := by decide +kernel
theorem dX7_write_0 : decode cX7_write 0 = .ok (.iload_n 1, 1) := by decide +kernel
theorem dX7_write_1 : decode cX7_write 1 = .ok (.ifCond .lt 10, 3) := by decide +kernel
theorem dX7_write_4 : decode cX7_write 4 = .ok (.iload_n 1, 1) := by decide +kernel
theorem dX7_write_5 : decode cX7_write 5 = .ok (.sipush 255, 3) := by decide +kernel
theorem dX7_write_8 : decode cX7_write 8 = .ok (.if_icmp .le 6, 3) := by decide +kernel
theorem dX7_write_11 : decode cX7_write 11 = .ok (.bipush (-3), 2) := by decide +kernel
theorem dX7_write_13 : decode cX7_write 13 = .ok (.ireturn, 1) := by decide +kernel
theorem dX7_write_14 : decode cX7_write 14 = .ok (.aload_n 0, 1) := by decide +kernel
theorem dX7_write_15 : decode cX7_write 15 = .ok (.getfield 10, 3) := by decide +kernel
theorem dX7_write_18 : decode cX7_write 18 = .ok (.iload_n 1, 1) := by decide +kernel
theorem dX7_write_19 : decode cX7_write 19 = .ok (.invokevirtual 68, 3) := by decide +kernel
theorem dX7_write_22 : decode cX7_write 22 = .ok (.ifCond .eq 13, 3) := by decide +kernel
theorem dX7_write_25 : decode cX7_write 25 = .ok (.aload_n 0, 1) := by decide +kernel
theorem dX7_write_26 : decode cX7_write 26 = .ok (.getfield 10, 3) := by decide +kernel
theorem dX7_write_29 : decode cX7_write 29 = .ok (.getfield 72, 3) := by decide +kernel
theorem dX7_write_32 : decode cX7_write 32 = .ok (.goto 5, 3) := by decide +kernel
theorem dX7_write_35 : decode cX7_write 35 = .ok (.bipush (-5), 2) := by decide +kernel
theorem dX7_write_37 : decode cX7_write 37 = .ok (.ireturn, 1) := by decide +kernel
theorem dX7_erase_0 : decode cX7_erase 0 = .ok (.aload_n 0, 1) := by decide +kernel
theorem dX7_erase_1 : decode cX7_erase 1 = .ok (.getfield 10, 3) := by decide +kernel
theorem dX7_erase_4 : decode cX7_erase 4 = .ok (.getfield 72, 3) := by decide +kernel
theorem dX7_erase_7 : decode cX7_erase 7 = .ok (.istore_n 1, 1) := by decide +kernel
theorem dX7_erase_8 : decode cX7_erase 8 = .ok (.aload_n 0, 1) := by decide +kernel
theorem dX7_erase_9 : decode cX7_erase 9 = .ok (.getfield 10, 3) := by decide +kernel
theorem dX7_erase_12 : decode cX7_erase 12 = .ok (.iconst 0, 1) := by decide +kernel
theorem dX7_erase_13 : decode cX7_erase 13 = .ok (.putfield 72, 3) := by decide +kernel
theorem dX7_erase_16 : decode cX7_erase 16 = .ok (.iload_n 1, 1) := by decide +kernel
theorem dX7_erase_17 : decode cX7_erase 17 = .ok (.ireturn, 1) := by decide +kernel
theorem dX7_fault_0 : decode cX7_fault 0 = .ok (.aload_n 0, 1) := by decide +kernel
theorem dX7_fault_1 : decode cX7_fault 1 = .ok (.getfield 28, 3) := by decide +kernel
theorem dX7_fault_4 : decode cX7_fault 4 = .ok (.aload_n 0, 1) := by decide +kernel
theorem dX7_fault_5 : decode cX7_fault 5 = .ok (.getfield 19, 3) := by decide +kernel
theorem dX7_fault_8 : decode cX7_fault 8 = .ok (.invokevirtual 76, 3) := by decide +kernel
theorem dX7_fault_11 : decode cX7_fault 11 = .ok (.ireturn, 1) := by decide +kernel
theorem dX7_parade_0 : decode cX7_parade 0 = .ok (.aload_n 0, 1) := by decide +kernel
theorem dX7_parade_1 : decode cX7_parade 1 = .ok (.getfield 28, 3) := by decide +kernel
theorem dX7_parade_4 : decode cX7_parade 4 = .ok (.aload_n 0, 1) := by decide +kernel
theorem dX7_parade_5 : decode cX7_parade 5 = .ok (.getfield 19, 3) := by decide +kernel
theorem dX7_parade_8 : decode cX7_parade 8 = .ok (.invokevirtual 76, 3) := by decide +kernel
theorem dX7_parade_11 : decode cX7_parade 11 = .ok (.iconst (-1), 1) := by decide +kernel
theorem dX7_parade_12 : decode cX7_parade 12 = .ok (.if_icmp .eq 6, 3) := by decide +kernel
theorem dX7_parade_15 : decode cX7_parade 15 = .ok (.bipush (-4), 2) := by decide +kernel
theorem dX7_parade_17 : decode cX7_parade 17 = .ok (.ireturn, 1) := by decide +kernel
theorem dX7_parade_18 : decode cX7_parade 18 = .ok (.aload_n 0, 1) := by decide +kernel
theorem dX7_parade_19 : decode cX7_parade 19 = .ok (.getfield 19, 3) := by decide +kernel
theorem dX7_parade_22 : decode cX7_parade 22 = .ok (.aload_n 0, 1) := by decide +kernel
theorem dX7_parade_23 : decode cX7_parade 23 = .ok (.getfield 28, 3) := by decide +kernel
theorem dX7_parade_26 : decode cX7_parade 26 = .ok (.getfield 80, 3) := by decide +kernel
theorem dX7_parade_29 : decode cX7_parade 29 = .ok (.invokevirtual 83, 3) := by decide +kernel
theorem dX7_parade_32 : decode cX7_parade 32 = .ok (.aload_n 0, 1) := by decide +kernel
theorem dX7_parade_33 : decode cX7_parade 33 = .ok (.getfield 35, 3) := by decide +kernel
theorem dX7_parade_36 : decode cX7_parade 36 = .ok (.aload_n 0, 1) := by decide +kernel
theorem dX7_parade_37 : decode cX7_parade 37 = .ok (.getfield 19, 3) := by decide +kernel
theorem dX7_parade_40 : decode cX7_parade 40 = .ok (.invokevirtual 64, 3) := by decide +kernel
theorem dX7_parade_43 : decode cX7_parade 43 = .ok (.aload_n 0, 1) := by decide +kernel
theorem dX7_parade_44 : decode cX7_parade 44 = .ok (.getfield 10, 3) := by decide +kernel
theorem dX7_parade_47 : decode cX7_parade 47 = .ok (.iconst 0, 1) := by decide +kernel
theorem dX7_parade_48 : decode cX7_parade 48 = .ok (.putfield 72, 3) := by decide +kernel
theorem dX7_parade_51 : decode cX7_parade 51 = .ok (.aload_n 0, 1) := by decide +kernel
theorem dX7_parade_52 : decode cX7_parade 52 = .ok (.getfield 60, 3) := by decide +kernel
theorem dX7_parade_55 : decode cX7_parade 55 = .ok (.iconst 0, 1) := by decide +kernel
theorem dX7_parade_56 : decode cX7_parade 56 = .ok (.putfield 86, 3) := by decide +kernel
theorem dX7_parade_59 : decode cX7_parade 59 = .ok (.aload_n 0, 1) := by decide +kernel
theorem dX7_parade_60 : decode cX7_parade 60 = .ok (.getfield 45, 3) := by decide +kernel
theorem dX7_parade_63 : decode cX7_parade 63 = .ok (.iconst 0, 1) := by decide +kernel
theorem dX7_parade_64 : decode cX7_parade 64 = .ok (.putfield 89, 3) := by decide +kernel
theorem dX7_parade_67 : decode cX7_parade 67 = .ok (.iconst 0, 1) := by decide +kernel
theorem dX7_parade_68 : decode cX7_parade 68 = .ok (.istore_n 1, 1) := by decide +kernel
theorem dX7_parade_69 : decode cX7_parade 69 = .ok (.iload_n 1, 1) := by decide +kernel
theorem dX7_parade_70 : decode cX7_parade 70 = .ok (.iconst 2, 1) := by decide +kernel
theorem dX7_parade_71 : decode cX7_parade 71 = .ok (.if_icmp .ge 16, 3) := by decide +kernel
theorem dX7_parade_74 : decode cX7_parade 74 = .ok (.aload_n 0, 1) := by decide +kernel
theorem dX7_parade_75 : decode cX7_parade 75 = .ok (.getfield 53, 3) := by decide +kernel
theorem dX7_parade_78 : decode cX7_parade 78 = .ok (.iload_n 1, 1) := by decide +kernel
theorem dX7_parade_79 : decode cX7_parade 79 = .ok (.iconst 0, 1) := by decide +kernel
theorem dX7_parade_80 : decode cX7_parade 80 = .ok (.bastore, 1) := by decide +kernel
theorem dX7_parade_81 : decode cX7_parade 81 = .ok (.iinc 1 1, 3) := by decide +kernel
theorem dX7_parade_84 : decode cX7_parade 84 = .ok (.goto (-15), 3) := by decide +kernel
theorem dX7_parade_87 : decode cX7_parade 87 = .ok (.aload_n 0, 1) := by decide +kernel
theorem dX7_parade_88 : decode cX7_parade 88 = .ok (.getfield 28, 3) := by decide +kernel
theorem dX7_parade_91 : decode cX7_parade 91 = .ok (.getfield 90, 3) := by decide +kernel
theorem dX7_parade_94 : decode cX7_parade 94 = .ok (.ireturn, 1) := by decide +kernel
theorem dX7_mud_0 : decode cX7_mud 0 = .ok (.aload_n 0, 1) := by decide +kernel
theorem dX7_mud_1 : decode cX7_mud 1 = .ok (.getfield 35, 3) := by decide +kernel
theorem dX7_mud_4 : decode cX7_mud 4 = .ok (.iload_n 1, 1) := by decide +kernel
theorem dX7_mud_5 : decode cX7_mud 5 = .ok (.invokevirtual 93, 3) := by decide +kernel
theorem dX7_mud_8 : decode cX7_mud 8 = .ok (.ifCond .eq 15, 3) := by decide +kernel
theorem dX7_mud_11 : decode cX7_mud 11 = .ok (.aload_n 0, 1) := by decide +kernel
theorem dX7_mud_12 : decode cX7_mud 12 = .ok (.getfield 35, 3) := by decide +kernel
theorem dX7_mud_15 : decode cX7_mud 15 = .ok (.getfield 96, 3) := by decide +kernel
theorem dX7_mud_18 : decode cX7_mud 18 = .ok (.iload_n 1, 1) := by decide +kernel
theorem dX7_mud_19 : decode cX7_mud 19 = .ok (.iaload, 1) := by decide +kernel
theorem dX7_mud_20 : decode cX7_mud 20 = .ok (.goto 5, 3) := by decide +kernel
theorem dX7_mud_23 : decode cX7_mud 23 = .ok (.bipush (-2), 2) := by decide +kernel
theorem dX7_mud_25 : decode cX7_mud 25 = .ok (.ireturn, 1) := by decide +kernel
theorem dX7_figure_0 : decode cX7_figure 0 = .ok (.iload_n 1, 1) := by decide +kernel
theorem dX7_figure_1 : decode cX7_figure 1 = .ok (.invokestatic 100, 3) := by decide +kernel
theorem dX7_figure_4 : decode cX7_figure 4 = .ok (.ifCond .eq 23, 3) := by decide +kernel
theorem dX7_figure_7 : decode cX7_figure 7 = .ok (.iload_n 2, 1) := by decide +kernel
theorem dX7_figure_8 : decode cX7_figure 8 = .ok (.ifCond .lt 19, 3) := by decide +kernel
theorem dX7_figure_11 : decode cX7_figure 11 = .ok (.iload_n 2, 1) := by decide +kernel
theorem dX7_figure_12 : decode cX7_figure 12 = .ok (.aload_n 0, 1) := by decide +kernel
theorem dX7_figure_13 : decode cX7_figure 13 = .ok (.getfield 35, 3) := by decide +kernel
theorem dX7_figure_16 : decode cX7_figure 16 = .ok (.getfield 103, 3) := by decide +kernel
theorem dX7_figure_19 : decode cX7_figure 19 = .ok (.iload_n 1, 1) := by decide +kernel
theorem dX7_figure_20 : decode cX7_figure 20 = .ok (.aaload, 1) := by decide +kernel
theorem dX7_figure_21 : decode cX7_figure 21 = .ok (.getfield 107, 3) := by decide +kernel
theorem dX7_figure_24 : decode cX7_figure 24 = .ok (.if_icmp .lt 6, 3) := by decide +kernel
theorem dX7_figure_27 : decode cX7_figure 27 = .ok (.bipush (-2), 2) := by decide +kernel
theorem dX7_figure_29 : decode cX7_figure 29 = .ok (.ireturn, 1) := by decide +kernel
theorem dX7_figure_30 : decode cX7_figure 30 = .ok (.iload_n 3, 1) := by decide +kernel
theorem dX7_figure_31 : decode cX7_figure 31 = .ok (.ifCond .lt 8, 3) := by decide +kernel
theorem dX7_figure_34 : decode cX7_figure 34 = .ok (.iload_n 3, 1) := by decide +kernel
theorem dX7_figure_35 : decode cX7_figure 35 = .ok (.iconst 1, 1) := by decide +kernel
theorem dX7_figure_36 : decode cX7_figure 36 = .ok (.if_icmp .le 6, 3) := by decide +kernel
theorem dX7_figure_39 : decode cX7_figure 39 = .ok (.bipush (-3), 2) := by decide +kernel
theorem dX7_figure_41 : decode cX7_figure 41 = .ok (.ireturn, 1) := by decide +kernel
theorem dX7_figure_42 : decode cX7_figure 42 = .ok (.aload_n 0, 1) := by decide +kernel
theorem dX7_figure_43 : decode cX7_figure 43 = .ok (.getfield 35, 3) := by decide +kernel
theorem dX7_figure_46 : decode cX7_figure 46 = .ok (.getfield 103, 3) := by decide +kernel
theorem dX7_figure_49 : decode cX7_figure 49 = .ok (.iload_n 1, 1) := by decide +kernel
theorem dX7_figure_50 : decode cX7_figure 50 = .ok (.aaload, 1) := by decide +kernel
theorem dX7_figure_51 : decode cX7_figure 51 = .ok (.astore 4, 2) := by decide +kernel
theorem dX7_figure_53 : decode cX7_figure 53 = .ok (.iload_n 3, 1) := by decide +kernel
theorem dX7_figure_54 : decode cX7_figure 54 = .ok (.ifCond .ne 13, 3) := by decide +kernel
theorem dX7_figure_57 : decode cX7_figure 57 = .ok (.aload 4, 2) := by decide +kernel
theorem dX7_figure_59 : decode cX7_figure 59 = .ok (.getfield 110, 3) := by decide +kernel
theorem dX7_figure_62 : decode cX7_figure 62 = .ok (.iload_n 2, 1) := by decide +kernel
theorem dX7_figure_63 : decode cX7_figure 63 = .ok (.iaload, 1) := by decide +kernel
theorem dX7_figure_64 : decode cX7_figure 64 = .ok (.goto 10, 3) := by decide +kernel
theorem dX7_figure_67 : decode cX7_figure 67 = .ok (.aload 4, 2) := by decide +kernel
theorem dX7_figure_69 : decode cX7_figure 69 = .ok (.getfield 113, 3) := by decide +kernel
theorem dX7_figure_72 : decode cX7_figure 72 = .ok (.iload_n 2, 1) := by decide +kernel
theorem dX7_figure_73 : decode cX7_figure 73 = .ok (.iaload, 1) := by decide +kernel
theorem dX7_figure_74 : decode cX7_figure 74 = .ok (.ireturn, 1) := by decide +kernel
theorem dX7_army_0 : decode cX7_army 0 = .ok (.iload_n 1, 1) := by decide +kernel
theorem dX7_army_1 : decode cX7_army 1 = .ok (.invokestatic 100, 3) := by decide +kernel
theorem dX7_army_4 : decode cX7_army 4 = .ok (.ifCond .ne 6, 3) := by decide +kernel
theorem dX7_army_7 : decode cX7_army 7 = .ok (.bipush (-2), 2) := by decide +kernel
theorem dX7_army_9 : decode cX7_army 9 = .ok (.ireturn, 1) := by decide +kernel
theorem dX7_army_10 : decode cX7_army 10 = .ok (.iload_n 2, 1) := by decide +kernel
theorem dX7_army_11 : decode cX7_army 11 = .ok (.tableswitch 65 0 2 #[25, 38, 48], 25) := by decide +kernel
theorem dX7_army_36 : decode cX7_army 36 = .ok (.aload_n 0, 1) := by decide +kernel
theorem dX7_army_37 : decode cX7_army 37 = .ok (.getfield 35, 3) := by decide +kernel
theorem dX7_army_40 : decode cX7_army 40 = .ok (.getfield 103, 3) := by decide +kernel
theorem dX7_army_43 : decode cX7_army 43 = .ok (.iload_n 1, 1) := by decide +kernel
theorem dX7_army_44 : decode cX7_army 44 = .ok (.aaload, 1) := by decide +kernel
theorem dX7_army_45 : decode cX7_army 45 = .ok (.getfield 107, 3) := by decide +kernel
theorem dX7_army_48 : decode cX7_army 48 = .ok (.ireturn, 1) := by decide +kernel
theorem dX7_army_49 : decode cX7_army 49 = .ok (.aload_n 0, 1) := by decide +kernel
theorem dX7_army_50 : decode cX7_army 50 = .ok (.getfield 35, 3) := by decide +kernel
theorem dX7_army_53 : decode cX7_army 53 = .ok (.getfield 116, 3) := by decide +kernel
theorem dX7_army_56 : decode cX7_army 56 = .ok (.iload_n 1, 1) := by decide +kernel
theorem dX7_army_57 : decode cX7_army 57 = .ok (.iaload, 1) := by decide +kernel
theorem dX7_army_58 : decode cX7_army 58 = .ok (.ireturn, 1) := by decide +kernel
theorem dX7_army_59 : decode cX7_army 59 = .ok (.aload_n 0, 1) := by decide +kernel
theorem dX7_army_60 : decode cX7_army 60 = .ok (.getfield 35, 3) := by decide +kernel
theorem dX7_army_63 : decode cX7_army 63 = .ok (.invokevirtual 119, 3) := by decide +kernel
theorem dX7_army_66 : decode cX7_army 66 = .ok (.iload_n 1, 1) := by decide +kernel
theorem dX7_army_67 : decode cX7_army 67 = .ok (.if_icmp .ne 7, 3) := by decide +kernel
theorem dX7_army_70 : decode cX7_army 70 = .ok (.iconst 1, 1) := by decide +kernel
theorem dX7_army_71 : decode cX7_army 71 = .ok (.goto 4, 3) := by decide +kernel
theorem dX7_army_74 : decode cX7_army 74 = .ok (.iconst 0, 1) := by decide +kernel
theorem dX7_army_75 : decode cX7_army 75 = .ok (.ireturn, 1) := by decide +kernel
theorem dX7_army_76 : decode cX7_army 76 = .ok (.bipush (-3), 2) := by decide +kernel
theorem dX7_army_78 : decode cX7_army 78 = .ok (.ireturn, 1) := by decide +kernel
theorem dX7_as_0 : decode cX7_as 0 = .ok (.iload_n 1, 1) := by decide +kernel
theorem dX7_as_1 : decode cX7_as 1 = .ok (.invokestatic 100, 3) := by decide +kernel
theorem dX7_as_4 : decode cX7_as 4 = .ok (.ifCond .ne 6, 3) := by decide +kernel
theorem dX7_as_7 : decode cX7_as 7 = .ok (.bipush (-2), 2) := by decide +kernel
theorem dX7_as_9 : decode cX7_as 9 = .ok (.ireturn, 1) := by decide +kernel
theorem dX7_as_10 : decode cX7_as 10 = .ok (.iload_n 2, 1) := by decide +kernel
theorem dX7_as_11 : decode cX7_as 11 = .ok (.ifCond .lt 11, 3) := by decide +kernel
theorem dX7_as_14 : decode cX7_as 14 = .ok (.iload_n 2, 1) := by decide +kernel
theorem dX7_as_15 : decode cX7_as 15 = .ok (.getstatic 123, 3) := by decide +kernel
theorem dX7_as_18 : decode cX7_as 18 = .ok (.arraylength, 1) := by decide +kernel
theorem dX7_as_19 : decode cX7_as 19 = .ok (.if_icmp .lt 6, 3) := by decide +kernel
theorem dX7_as_22 : decode cX7_as 22 = .ok (.bipush (-3), 2) := by decide +kernel
theorem dX7_as_24 : decode cX7_as 24 = .ok (.ireturn, 1) := by decide +kernel
theorem dX7_as_25 : decode cX7_as 25 = .ok (.aload_n 0, 1) := by decide +kernel
theorem dX7_as_26 : decode cX7_as 26 = .ok (.getfield 35, 3) := by decide +kernel
theorem dX7_as_29 : decode cX7_as 29 = .ok (.getfield 103, 3) := by decide +kernel
theorem dX7_as_32 : decode cX7_as 32 = .ok (.iload_n 1, 1) := by decide +kernel
theorem dX7_as_33 : decode cX7_as 33 = .ok (.aaload, 1) := by decide +kernel
theorem dX7_as_34 : decode cX7_as 34 = .ok (.astore_n 3, 1) := by decide +kernel
theorem dX7_as_35 : decode cX7_as 35 = .ok (.aload_n 3, 1) := by decide +kernel
theorem dX7_as_36 : decode cX7_as 36 = .ok (.getfield 107, 3) := by decide +kernel
theorem dX7_as_39 : decode cX7_as 39 = .ok (.ifCond .eq 18, 3) := by decide +kernel
theorem dX7_as_42 : decode cX7_as 42 = .ok (.aload_n 3, 1) := by decide +kernel
theorem dX7_as_43 : decode cX7_as 43 = .ok (.getfield 110, 3) := by decide +kernel
theorem dX7_as_46 : decode cX7_as 46 = .ok (.iconst 0, 1) := by decide +kernel
theorem dX7_as_47 : decode cX7_as 47 = .ok (.iaload, 1) := by decide +kernel
theorem dX7_as_48 : decode cX7_as 48 = .ok (.iconst 1, 1) := by decide +kernel
theorem dX7_as_49 : decode cX7_as 49 = .ok (.iadd, 1) := by decide +kernel
theorem dX7_as_50 : decode cX7_as 50 = .ok (.iload_n 2, 1) := by decide +kernel
theorem dX7_as_51 : decode cX7_as 51 = .ok (.invokestatic 126, 3) := by decide +kernel
theorem dX7_as_54 : decode cX7_as 54 = .ok (.ifCond .ne 6, 3) := by decide +kernel
theorem dX7_as_57 : decode cX7_as 57 = .ok (.bipush (-4), 2) := by decide +kernel
theorem dX7_as_59 : decode cX7_as 59 = .ok (.ireturn, 1) := by decide +kernel
theorem dX7_as_60 : decode cX7_as 60 = .ok (.getstatic 130, 3) := by decide +kernel
theorem dX7_as_63 : decode cX7_as 63 = .ok (.aload_n 3, 1) := by decide +kernel
theorem dX7_as_64 : decode cX7_as 64 = .ok (.getfield 110, 3) := by decide +kernel
theorem dX7_as_67 : decode cX7_as 67 = .ok (.iconst 0, 1) := by decide +kernel
theorem dX7_as_68 : decode cX7_as 68 = .ok (.iaload, 1) := by decide +kernel
theorem dX7_as_69 : decode cX7_as 69 = .ok (.iaload, 1) := by decide +kernel
theorem dX7_as_70 : decode cX7_as 70 = .ok (.ireturn, 1) := by decide +kernel
theorem dX7_pass_0 : decode cX7_pass 0 = .ok (.iload_n 1, 1) := by decide +kernel
theorem dX7_pass_1 : decode cX7_pass 1 = .ok (.iconst 1, 1) := by decide +kernel
theorem dX7_pass_2 : decode cX7_pass 2 = .ok (.if_icmp .lt 9, 3) := by decide +kernel
theorem dX7_pass_5 : decode cX7_pass 5 = .ok (.iload_n 1, 1) := by decide +kernel
theorem dX7_pass_6 : decode cX7_pass 6 = .ok (.bipush 60, 2) := by decide +kernel
theorem dX7_pass_8 : decode cX7_pass 8 = .ok (.if_icmp .le 6, 3) := by decide +kernel
theorem dX7_pass_11 : decode cX7_pass 11 = .ok (.bipush (-3), 2) := by decide +kernel
theorem dX7_pass_13 : decode cX7_pass 13 = .ok (.ireturn, 1) := by decide +kernel
theorem dX7_pass_14 : decode cX7_pass 14 = .ok (.aload_n 0, 1) := by decide +kernel
theorem dX7_pass_15 : decode cX7_pass 15 = .ok (.getfield 35, 3) := by decide +kernel
theorem dX7_pass_18 : decode cX7_pass 18 = .ok (.getfield 133, 3) := by decide +kernel
theorem dX7_pass_21 : decode cX7_pass 21 = .ok (.sipush 999, 3) := by decide +kernel
theorem dX7_pass_24 : decode cX7_pass 24 = .ok (.if_icmp .le 6, 3) := by decide +kernel
theorem dX7_pass_27 : decode cX7_pass 27 = .ok (.bipush (-5), 2) := by decide +kernel
theorem dX7_pass_29 : decode cX7_pass 29 = .ok (.ireturn, 1) := by decide +kernel
theorem dX7_pass_30 : decode cX7_pass 30 = .ok (.aload_n 0, 1) := by decide +kernel
theorem dX7_pass_31 : decode cX7_pass 31 = .ok (.getfield 45, 3) := by decide +kernel
theorem dX7_pass_34 : decode cX7_pass 34 = .ok (.aload_n 0, 1) := by decide +kernel
theorem dX7_pass_35 : decode cX7_pass 35 = .ok (.getfield 35, 3) := by decide +kernel
theorem dX7_pass_38 : decode cX7_pass 38 = .ok (.invokevirtual 136, 3) := by decide +kernel
theorem dX7_pass_41 : decode cX7_pass 41 = .ok (.aload_n 0, 1) := by decide +kernel
theorem dX7_pass_42 : decode cX7_pass 42 = .ok (.getfield 35, 3) := by decide +kernel
theorem dX7_pass_45 : decode cX7_pass 45 = .ok (.iload_n 1, 1) := by decide +kernel
theorem dX7_pass_46 : decode cX7_pass 46 = .ok (.invokevirtual 140, 3) := by decide +kernel
theorem dX7_pass_49 : decode cX7_pass 49 = .ok (.aload_n 0, 1) := by decide +kernel
theorem dX7_pass_50 : decode cX7_pass 50 = .ok (.getfield 35, 3) := by decide +kernel
theorem dX7_pass_53 : decode cX7_pass 53 = .ok (.invokevirtual 144, 3) := by decide +kernel
theorem dX7_pass_56 : decode cX7_pass 56 = .ok (.ireturn, 1) := by decide +kernel
theorem dX7_order_0 : decode cX7_order 0 = .ok (.iload_n 1, 1) := by decide +kernel
theorem dX7_order_1 : decode cX7_order 1 = .ok (.invokestatic 100, 3) := by decide +kernel
theorem dX7_order_4 : decode cX7_order 4 = .ok (.ifCond .ne 6, 3) := by decide +kernel
theorem dX7_order_7 : decode cX7_order 7 = .ok (.bipush (-2), 2) := by decide +kernel
theorem dX7_order_9 : decode cX7_order 9 = .ok (.ireturn, 1) := by decide +kernel
theorem dX7_order_10 : decode cX7_order 10 = .ok (.iload_n 2, 1) := by decide +kernel
theorem dX7_order_11 : decode cX7_order 11 = .ok (.iload_n 3, 1) := by decide +kernel
theorem dX7_order_12 : decode cX7_order 12 = .ok (.invokestatic 147, 3) := by decide +kernel
theorem dX7_order_15 : decode cX7_order 15 = .ok (.ifCond .ne 6, 3) := by decide +kernel
theorem dX7_order_18 : decode cX7_order 18 = .ok (.bipush (-3), 2) := by decide +kernel
theorem dX7_order_20 : decode cX7_order 20 = .ok (.ireturn, 1) := by decide +kernel
theorem dX7_order_21 : decode cX7_order 21 = .ok (.aload_n 0, 1) := by decide +kernel
theorem dX7_order_22 : decode cX7_order 22 = .ok (.getfield 35, 3) := by decide +kernel
theorem dX7_order_25 : decode cX7_order 25 = .ok (.getfield 103, 3) := by decide +kernel
theorem dX7_order_28 : decode cX7_order 28 = .ok (.iload_n 1, 1) := by decide +kernel
theorem dX7_order_29 : decode cX7_order 29 = .ok (.aaload, 1) := by decide +kernel
theorem dX7_order_30 : decode cX7_order 30 = .ok (.invokevirtual 150, 3) := by decide +kernel
theorem dX7_order_33 : decode cX7_order 33 = .ok (.ifCond .eq 6, 3) := by decide +kernel
theorem dX7_order_36 : decode cX7_order 36 = .ok (.bipush (-5), 2) := by decide +kernel
theorem dX7_order_38 : decode cX7_order 38 = .ok (.ireturn, 1) := by decide +kernel
theorem dX7_order_39 : decode cX7_order 39 = .ok (.aload_n 0, 1) := by decide +kernel
theorem dX7_order_40 : decode cX7_order 40 = .ok (.getfield 45, 3) := by decide +kernel
theorem dX7_order_43 : decode cX7_order 43 = .ok (.aload_n 0, 1) := by decide +kernel
theorem dX7_order_44 : decode cX7_order 44 = .ok (.getfield 35, 3) := by decide +kernel
theorem dX7_order_47 : decode cX7_order 47 = .ok (.invokevirtual 136, 3) := by decide +kernel
theorem dX7_order_50 : decode cX7_order 50 = .ok (.aload_n 0, 1) := by decide +kernel
theorem dX7_order_51 : decode cX7_order 51 = .ok (.getfield 35, 3) := by decide +kernel
theorem dX7_order_54 : decode cX7_order 54 = .ok (.getfield 103, 3) := by decide +kernel
theorem dX7_order_57 : decode cX7_order 57 = .ok (.iload_n 1, 1) := by decide +kernel
theorem dX7_order_58 : decode cX7_order 58 = .ok (.aaload, 1) := by decide +kernel
theorem dX7_order_59 : decode cX7_order 59 = .ok (.iload_n 2, 1) := by decide +kernel
theorem dX7_order_60 : decode cX7_order 60 = .ok (.iload_n 3, 1) := by decide +kernel
theorem dX7_order_61 : decode cX7_order 61 = .ok (.invokevirtual 154, 3) := by decide +kernel
theorem dX7_order_64 : decode cX7_order 64 = .ok (.aload_n 0, 1) := by decide +kernel
theorem dX7_order_65 : decode cX7_order 65 = .ok (.getfield 35, 3) := by decide +kernel
theorem dX7_order_68 : decode cX7_order 68 = .ok (.getfield 103, 3) := by decide +kernel
theorem dX7_order_71 : decode cX7_order 71 = .ok (.iload_n 1, 1) := by decide +kernel
theorem dX7_order_72 : decode cX7_order 72 = .ok (.aaload, 1) := by decide +kernel
theorem dX7_order_73 : decode cX7_order 73 = .ok (.getfield 107, 3) := by decide +kernel
theorem dX7_order_76 : decode cX7_order 76 = .ok (.ireturn, 1) := by decide +kernel
theorem dX7_wind_0 : decode cX7_wind 0 = .ok (.iload_n 1, 1) := by decide +kernel
theorem dX7_wind_1 : decode cX7_wind 1 = .ok (.ifCond .lt 9, 3) := by decide +kernel
theorem dX7_wind_4 : decode cX7_wind 4 = .ok (.iload_n 1, 1) := by decide +kernel
theorem dX7_wind_5 : decode cX7_wind 5 = .ok (.bipush 8, 2) := by decide +kernel
theorem dX7_wind_7 : decode cX7_wind 7 = .ok (.if_icmp .le 6, 3) := by decide +kernel
theorem dX7_wind_10 : decode cX7_wind 10 = .ok (.bipush (-3), 2) := by decide +kernel
theorem dX7_wind_12 : decode cX7_wind 12 = .ok (.ireturn, 1) := by decide +kernel
theorem dX7_wind_13 : decode cX7_wind 13 = .ok (.aload_n 0, 1) := by decide +kernel
theorem dX7_wind_14 : decode cX7_wind 14 = .ok (.getfield 45, 3) := by decide +kernel
theorem dX7_wind_17 : decode cX7_wind 17 = .ok (.aload_n 0, 1) := by decide +kernel
theorem dX7_wind_18 : decode cX7_wind 18 = .ok (.getfield 35, 3) := by decide +kernel
theorem dX7_wind_21 : decode cX7_wind 21 = .ok (.invokevirtual 136, 3) := by decide +kernel
theorem dX7_wind_24 : decode cX7_wind 24 = .ok (.aload_n 0, 1) := by decide +kernel
theorem dX7_wind_25 : decode cX7_wind 25 = .ok (.getfield 35, 3) := by decide +kernel
theorem dX7_wind_28 : decode cX7_wind 28 = .ok (.iload_n 1, 1) := by decide +kernel
theorem dX7_wind_29 : decode cX7_wind 29 = .ok (.invokevirtual 157, 3) := by decide +kernel
theorem dX7_wind_32 : decode cX7_wind 32 = .ok (.aload_n 0, 1) := by decide +kernel
theorem dX7_wind_33 : decode cX7_wind 33 = .ok (.getfield 35, 3) := by decide +kernel
theorem dX7_wind_36 : decode cX7_wind 36 = .ok (.getfield 133, 3) := by decide +kernel
theorem dX7_wind_39 : decode cX7_wind 39 = .ok (.ireturn, 1) := by decide +kernel
theorem dX7_undo_0 : decode cX7_undo 0 = .ok (.aload_n 0, 1) := by decide +kernel
theorem dX7_undo_1 : decode cX7_undo 1 = .ok (.getfield 45, 3) := by decide +kernel
theorem dX7_undo_4 : decode cX7_undo 4 = .ok (.aload_n 0, 1) := by decide +kernel
theorem dX7_undo_5 : decode cX7_undo 5 = .ok (.getfield 35, 3) := by decide +kernel
theorem dX7_undo_8 : decode cX7_undo 8 = .ok (.invokevirtual 160, 3) := by decide +kernel
theorem dX7_undo_11 : decode cX7_undo 11 = .ok (.ifCond .eq 13, 3) := by decide +kernel
theorem dX7_undo_14 : decode cX7_undo 14 = .ok (.aload_n 0, 1) := by decide +kernel
theorem dX7_undo_15 : decode cX7_undo 15 = .ok (.getfield 45, 3) := by decide +kernel
theorem dX7_undo_18 : decode cX7_undo 18 = .ok (.getfield 89, 3) := by decide +kernel
theorem dX7_undo_21 : decode cX7_undo 21 = .ok (.goto 5, 3) := by decide +kernel
theorem dX7_undo_24 : decode cX7_undo 24 = .ok (.bipush (-4), 2) := by decide +kernel
theorem dX7_undo_26 : decode cX7_undo 26 = .ok (.ireturn, 1) := by decide +kernel
theorem dX7_keep_0 : decode cX7_keep 0 = .ok (.iload_n 1, 1) := by decide +kernel
theorem dX7_keep_1 : decode cX7_keep 1 = .ok (.ifCond .lt 8, 3) := by decide +kernel
theorem dX7_keep_4 : decode cX7_keep 4 = .ok (.iload_n 1, 1) := by decide +kernel
theorem dX7_keep_5 : decode cX7_keep 5 = .ok (.iconst 2, 1) := by decide +kernel
theorem dX7_keep_6 : decode cX7_keep 6 = .ok (.if_icmp .lt 6, 3) := by decide +kernel
theorem dX7_keep_9 : decode cX7_keep 9 = .ok (.bipush (-2), 2) := by decide +kernel
theorem dX7_keep_11 : decode cX7_keep 11 = .ok (.ireturn, 1) := by decide +kernel
theorem dX7_keep_12 : decode cX7_keep 12 = .ok (.aload_n 0, 1) := by decide +kernel
theorem dX7_keep_13 : decode cX7_keep 13 = .ok (.getfield 49, 3) := by decide +kernel
theorem dX7_keep_16 : decode cX7_keep 16 = .ok (.iload_n 1, 1) := by decide +kernel
theorem dX7_keep_17 : decode cX7_keep 17 = .ok (.aaload, 1) := by decide +kernel
theorem dX7_keep_18 : decode cX7_keep 18 = .ok (.aload_n 0, 1) := by decide +kernel
theorem dX7_keep_19 : decode cX7_keep 19 = .ok (.getfield 35, 3) := by decide +kernel
theorem dX7_keep_22 : decode cX7_keep 22 = .ok (.invokevirtual 164, 3) := by decide +kernel
theorem dX7_keep_25 : decode cX7_keep 25 = .ok (.aload_n 0, 1) := by decide +kernel
theorem dX7_keep_26 : decode cX7_keep 26 = .ok (.getfield 53, 3) := by decide +kernel
theorem dX7_keep_29 : decode cX7_keep 29 = .ok (.iload_n 1, 1) := by decide +kernel
theorem dX7_keep_30 : decode cX7_keep 30 = .ok (.iconst 1, 1) := by decide +kernel
theorem dX7_keep_31 : decode cX7_keep 31 = .ok (.bastore, 1) := by decide +kernel
theorem dX7_keep_32 : decode cX7_keep 32 = .ok (.aload_n 0, 1) := by decide +kernel
theorem dX7_keep_33 : decode cX7_keep 33 = .ok (.getfield 35, 3) := by decide +kernel
theorem dX7_keep_36 : decode cX7_keep 36 = .ok (.getfield 133, 3) := by decide +kernel
theorem dX7_keep_39 : decode cX7_keep 39 = .ok (.ireturn, 1) := by decide +kernel
theorem dX7_back_0 : decode cX7_back 0 = .ok (.iload_n 1, 1) := by decide +kernel
theorem dX7_back_1 : decode cX7_back 1 = .ok (.ifCond .lt 8, 3) := by decide +kernel
theorem dX7_back_4 : decode cX7_back 4 = .ok (.iload_n 1, 1) := by decide +kernel
theorem dX7_back_5 : decode cX7_back 5 = .ok (.iconst 2, 1) := by decide +kernel
theorem dX7_back_6 : decode cX7_back 6 = .ok (.if_icmp .lt 6, 3) := by decide +kernel
theorem dX7_back_9 : decode cX7_back 9 = .ok (.bipush (-2), 2) := by decide +kernel
theorem dX7_back_11 : decode cX7_back 11 = .ok (.ireturn, 1) := by decide +kernel
theorem dX7_back_12 : decode cX7_back 12 = .ok (.aload_n 0, 1) := by decide +kernel
theorem dX7_back_13 : decode cX7_back 13 = .ok (.getfield 53, 3) := by decide +kernel
theorem dX7_back_16 : decode cX7_back 16 = .ok (.iload_n 1, 1) := by decide +kernel
theorem dX7_back_17 : decode cX7_back 17 = .ok (.baload, 1) := by decide +kernel
theorem dX7_back_18 : decode cX7_back 18 = .ok (.ifCond .ne 6, 3) := by decide +kernel
theorem dX7_back_21 : decode cX7_back 21 = .ok (.bipush (-4), 2) := by decide +kernel
theorem dX7_back_23 : decode cX7_back 23 = .ok (.ireturn, 1) := by decide +kernel
theorem dX7_back_24 : decode cX7_back 24 = .ok (.aload_n 0, 1) := by decide +kernel
theorem dX7_back_25 : decode cX7_back 25 = .ok (.getfield 35, 3) := by decide +kernel
theorem dX7_back_28 : decode cX7_back 28 = .ok (.aload_n 0, 1) := by decide +kernel
theorem dX7_back_29 : decode cX7_back 29 = .ok (.getfield 49, 3) := by decide +kernel
theorem dX7_back_32 : decode cX7_back 32 = .ok (.iload_n 1, 1) := by decide +kernel
theorem dX7_back_33 : decode cX7_back 33 = .ok (.aaload, 1) := by decide +kernel
theorem dX7_back_34 : decode cX7_back 34 = .ok (.invokevirtual 164, 3) := by decide +kernel
theorem dX7_back_37 : decode cX7_back 37 = .ok (.aload_n 0, 1) := by decide +kernel
theorem dX7_back_38 : decode cX7_back 38 = .ok (.getfield 45, 3) := by decide +kernel
theorem dX7_back_41 : decode cX7_back 41 = .ok (.iconst 0, 1) := by decide +kernel
theorem dX7_back_42 : decode cX7_back 42 = .ok (.putfield 89, 3) := by decide +kernel
theorem dX7_back_45 : decode cX7_back 45 = .ok (.aload_n 0, 1) := by decide +kernel
theorem dX7_back_46 : decode cX7_back 46 = .ok (.getfield 35, 3) := by decide +kernel
theorem dX7_back_49 : decode cX7_back 49 = .ok (.getfield 133, 3) := by decide +kernel
theorem dX7_back_52 : decode cX7_back 52 = .ok (.ireturn, 1) := by decide +kernel
theorem dX7_behind_0 : decode cX7_behind 0 = .ok (.iload_n 1, 1) := by decide +kernel
theorem dX7_behind_1 : decode cX7_behind 1 = .ok (.ifCond .lt 18, 3) := by decide +kernel
theorem dX7_behind_4 : decode cX7_behind 4 = .ok (.iload_n 1, 1) := by decide +kernel
theorem dX7_behind_5 : decode cX7_behind 5 = .ok (.bipush 99, 2) := by decide +kernel
theorem dX7_behind_7 : decode cX7_behind 7 = .ok (.if_icmp .gt 12, 3) := by decide +kernel
theorem dX7_behind_10 : decode cX7_behind 10 = .ok (.iload_n 2, 1) := by decide +kernel
theorem dX7_behind_11 : decode cX7_behind 11 = .ok (.ifCond .lt 8, 3) := by decide +kernel
theorem dX7_behind_14 : decode cX7_behind 14 = .ok (.iload_n 2, 1) := by decide +kernel
theorem dX7_behind_15 : decode cX7_behind 15 = .ok (.iconst 4, 1) := by decide +kernel
theorem dX7_behind_16 : decode cX7_behind 16 = .ok (.if_icmp .le 6, 3) := by decide +kernel
theorem dX7_behind_19 : decode cX7_behind 19 = .ok (.bipush (-3), 2) := by decide +kernel
theorem dX7_behind_21 : decode cX7_behind 21 = .ok (.ireturn, 1) := by decide +kernel
theorem dX7_behind_22 : decode cX7_behind 22 = .ok (.aload_n 0, 1) := by decide +kernel
theorem dX7_behind_23 : decode cX7_behind 23 = .ok (.getfield 39, 3) := by decide +kernel
theorem dX7_behind_26 : decode cX7_behind 26 = .ok (.aload_n 0, 1) := by decide +kernel
theorem dX7_behind_27 : decode cX7_behind 27 = .ok (.getfield 35, 3) := by decide +kernel
theorem dX7_behind_30 : decode cX7_behind 30 = .ok (.invokevirtual 164, 3) := by decide +kernel
theorem dX7_behind_33 : decode cX7_behind 33 = .ok (.aload_n 0, 1) := by decide +kernel
theorem dX7_behind_34 : decode cX7_behind 34 = .ok (.getfield 39, 3) := by decide +kernel
theorem dX7_behind_37 : decode cX7_behind 37 = .ok (.iload_n 1, 1) := by decide +kernel
theorem dX7_behind_38 : decode cX7_behind 38 = .ok (.invokevirtual 140, 3) := by decide +kernel
theorem dX7_behind_41 : decode cX7_behind 41 = .ok (.iload_n 2, 1) := by decide +kernel
theorem dX7_behind_42 : decode cX7_behind 42 = .ok (.tableswitch 72 0 3 #[30, 38, 46, 62], 30) := by decide +kernel
theorem dX7_behind_72 : decode cX7_behind 72 = .ok (.aload_n 0, 1) := by decide +kernel
theorem dX7_behind_73 : decode cX7_behind 73 = .ok (.getfield 39, 3) := by decide +kernel
theorem dX7_behind_76 : decode cX7_behind 76 = .ok (.invokevirtual 144, 3) := by decide +kernel
theorem dX7_behind_79 : decode cX7_behind 79 = .ok (.ireturn, 1) := by decide +kernel
theorem dX7_behind_80 : decode cX7_behind 80 = .ok (.aload_n 0, 1) := by decide +kernel
theorem dX7_behind_81 : decode cX7_behind 81 = .ok (.getfield 39, 3) := by decide +kernel
theorem dX7_behind_84 : decode cX7_behind 84 = .ok (.getfield 166, 3) := by decide +kernel
theorem dX7_behind_87 : decode cX7_behind 87 = .ok (.ireturn, 1) := by decide +kernel
theorem dX7_behind_88 : decode cX7_behind 88 = .ok (.aload_n 0, 1) := by decide +kernel
theorem dX7_behind_89 : decode cX7_behind 89 = .ok (.getfield 39, 3) := by decide +kernel
theorem dX7_behind_92 : decode cX7_behind 92 = .ok (.getfield 96, 3) := by decide +kernel
theorem dX7_behind_95 : decode cX7_behind 95 = .ok (.aload_n 0, 1) := by decide +kernel
theorem dX7_behind_96 : decode cX7_behind 96 = .ok (.getfield 39, 3) := by decide +kernel
theorem dX7_behind_99 : decode cX7_behind 99 = .ok (.invokevirtual 144, 3) := by decide +kernel
theorem dX7_behind_102 : decode cX7_behind 102 = .ok (.iaload, 1) := by decide +kernel
theorem dX7_behind_103 : decode cX7_behind 103 = .ok (.ireturn, 1) := by decide +kernel
theorem dX7_behind_104 : decode cX7_behind 104 = .ok (.aload_n 0, 1) := by decide +kernel
theorem dX7_behind_105 : decode cX7_behind 105 = .ok (.getfield 39, 3) := by decide +kernel
theorem dX7_behind_108 : decode cX7_behind 108 = .ok (.getfield 116, 3) := by decide +kernel
theorem dX7_behind_111 : decode cX7_behind 111 = .ok (.iconst 0, 1) := by decide +kernel
theorem dX7_behind_112 : decode cX7_behind 112 = .ok (.iaload, 1) := by decide +kernel
theorem dX7_behind_113 : decode cX7_behind 113 = .ok (.ireturn, 1) := by decide +kernel
theorem dX7_behind_114 : decode cX7_behind 114 = .ok (.aload_n 0, 1) := by decide +kernel
theorem dX7_behind_115 : decode cX7_behind 115 = .ok (.getfield 39, 3) := by decide +kernel
theorem dX7_behind_118 : decode cX7_behind 118 = .ok (.getfield 116, 3) := by decide +kernel
theorem dX7_behind_121 : decode cX7_behind 121 = .ok (.iconst 1, 1) := by decide +kernel
theorem dX7_behind_122 : decode cX7_behind 122 = .ok (.iaload, 1) := by decide +kernel
theorem dX7_behind_123 : decode cX7_behind 123 = .ok (.ireturn, 1) := by decide +kernel
theorem dX7_first_0 : decode cX7_first 0 = .ok (.iload_n 1, 1) := by decide +kernel
theorem dX7_first_1 : decode cX7_first 1 = .ok (.invokestatic 100, 3) := by decide +kernel
theorem dX7_first_4 : decode cX7_first 4 = .ok (.ifCond .ne 6, 3) := by decide +kernel
theorem dX7_first_7 : decode cX7_first 7 = .ok (.bipush (-2), 2) := by decide +kernel
theorem dX7_first_9 : decode cX7_first 9 = .ok (.ireturn, 1) := by decide +kernel
theorem dX7_first_10 : decode cX7_first 10 = .ok (.aload_n 0, 1) := by decide +kernel
theorem dX7_first_11 : decode cX7_first 11 = .ok (.getfield 39, 3) := by decide +kernel
theorem dX7_first_14 : decode cX7_first 14 = .ok (.aload_n 0, 1) := by decide +kernel
theorem dX7_first_15 : decode cX7_first 15 = .ok (.getfield 35, 3) := by decide +kernel
theorem dX7_first_18 : decode cX7_first 18 = .ok (.invokevirtual 164, 3) := by decide +kernel
theorem dX7_first_21 : decode cX7_first 21 = .ok (.iconst 1, 1) := by decide +kernel
theorem dX7_first_22 : decode cX7_first 22 = .ok (.istore_n 2, 1) := by decide +kernel
theorem dX7_first_23 : decode cX7_first 23 = .ok (.iload_n 2, 1) := by decide +kernel
theorem dX7_first_24 : decode cX7_first 24 = .ok (.bipush 99, 2) := by decide +kernel
theorem dX7_first_26 : decode cX7_first 26 = .ok (.if_icmp .gt 22, 3) := by decide +kernel
theorem dX7_first_29 : decode cX7_first 29 = .ok (.aload_n 0, 1) := by decide +kernel
theorem dX7_first_30 : decode cX7_first 30 = .ok (.getfield 39, 3) := by decide +kernel
theorem dX7_first_33 : decode cX7_first 33 = .ok (.invokevirtual 169, 3) := by decide +kernel
theorem dX7_first_36 : decode cX7_first 36 = .ok (.iload_n 1, 1) := by decide +kernel
theorem dX7_first_37 : decode cX7_first 37 = .ok (.if_icmp .ne 5, 3) := by decide +kernel
theorem dX7_first_40 : decode cX7_first 40 = .ok (.iload_n 2, 1) := by decide +kernel
theorem dX7_first_41 : decode cX7_first 41 = .ok (.ireturn, 1) := by decide +kernel
theorem dX7_first_42 : decode cX7_first 42 = .ok (.iinc 2 1, 3) := by decide +kernel
theorem dX7_first_45 : decode cX7_first 45 = .ok (.goto (-22), 3) := by decide +kernel
theorem dX7_first_48 : decode cX7_first 48 = .ok (.iconst (-1), 1) := by decide +kernel
theorem dX7_first_49 : decode cX7_first 49 = .ok (.ireturn, 1) := by decide +kernel
theorem dX7_plot_0 : decode cX7_plot 0 = .ok (.iload_n 1, 1) := by decide +kernel
theorem dX7_plot_1 : decode cX7_plot 1 = .ok (.invokestatic 100, 3) := by decide +kernel
theorem dX7_plot_4 : decode cX7_plot 4 = .ok (.ifCond .ne 6, 3) := by decide +kernel
theorem dX7_plot_7 : decode cX7_plot 7 = .ok (.bipush (-2), 2) := by decide +kernel
theorem dX7_plot_9 : decode cX7_plot 9 = .ok (.ireturn, 1) := by decide +kernel
theorem dX7_plot_10 : decode cX7_plot 10 = .ok (.iload_n 2, 1) := by decide +kernel
theorem dX7_plot_11 : decode cX7_plot 11 = .ok (.iconst 1, 1) := by decide +kernel
theorem dX7_plot_12 : decode cX7_plot 12 = .ok (.if_icmp .lt 18, 3) := by decide +kernel
theorem dX7_plot_15 : decode cX7_plot 15 = .ok (.iload_n 2, 1) := by decide +kernel
theorem dX7_plot_16 : decode cX7_plot 16 = .ok (.bipush 40, 2) := by decide +kernel
theorem dX7_plot_18 : decode cX7_plot 18 = .ok (.if_icmp .gt 12, 3) := by decide +kernel
theorem dX7_plot_21 : decode cX7_plot 21 = .ok (.iload_n 3, 1) := by decide +kernel
theorem dX7_plot_22 : decode cX7_plot 22 = .ok (.ifCond .lt 8, 3) := by decide +kernel
theorem dX7_plot_25 : decode cX7_plot 25 = .ok (.iload_n 3, 1) := by decide +kernel
theorem dX7_plot_26 : decode cX7_plot 26 = .ok (.iconst 2, 1) := by decide +kernel
theorem dX7_plot_27 : decode cX7_plot 27 = .ok (.if_icmp .le 6, 3) := by decide +kernel
theorem dX7_plot_30 : decode cX7_plot 30 = .ok (.bipush (-3), 2) := by decide +kernel
theorem dX7_plot_32 : decode cX7_plot 32 = .ok (.ireturn, 1) := by decide +kernel
theorem dX7_plot_33 : decode cX7_plot 33 = .ok (.aload_n 0, 1) := by decide +kernel
theorem dX7_plot_34 : decode cX7_plot 34 = .ok (.getfield 35, 3) := by decide +kernel
theorem dX7_plot_37 : decode cX7_plot 37 = .ok (.getfield 103, 3) := by decide +kernel
theorem dX7_plot_40 : decode cX7_plot 40 = .ok (.iload_n 1, 1) := by decide +kernel
theorem dX7_plot_41 : decode cX7_plot 41 = .ok (.aaload, 1) := by decide +kernel
theorem dX7_plot_42 : decode cX7_plot 42 = .ok (.getfield 107, 3) := by decide +kernel
theorem dX7_plot_45 : decode cX7_plot 45 = .ok (.bipush 6, 2) := by decide +kernel
theorem dX7_plot_47 : decode cX7_plot 47 = .ok (.if_icmp .le 6, 3) := by decide +kernel
theorem dX7_plot_50 : decode cX7_plot 50 = .ok (.bipush (-4), 2) := by decide +kernel
theorem dX7_plot_52 : decode cX7_plot 52 = .ok (.ireturn, 1) := by decide +kernel
theorem dX7_plot_53 : decode cX7_plot 53 = .ok (.iconst (-1), 1) := by decide +kernel
theorem dX7_plot_54 : decode cX7_plot 54 = .ok (.istore 4, 2) := by decide +kernel
theorem dX7_plot_56 : decode cX7_plot 56 = .ok (.iconst (-1), 1) := by decide +kernel
theorem dX7_plot_57 : decode cX7_plot 57 = .ok (.istore 5, 2) := by decide +kernel
theorem dX7_plot_59 : decode cX7_plot 59 = .ok (.iconst (-1), 1) := by decide +kernel
theorem dX7_plot_60 : decode cX7_plot 60 = .ok (.istore 6, 2) := by decide +kernel
theorem dX7_plot_62 : decode cX7_plot 62 = .ok (.iconst 1, 1) := by decide +kernel
theorem dX7_plot_63 : decode cX7_plot 63 = .ok (.istore 7, 2) := by decide +kernel
theorem dX7_plot_65 : decode cX7_plot 65 = .ok (.iload 7, 2) := by decide +kernel
theorem dX7_plot_67 : decode cX7_plot 67 = .ok (.bipush 9, 2) := by decide +kernel
theorem dX7_plot_69 : decode cX7_plot 69 = .ok (.if_icmp .gt 64, 3) := by decide +kernel
theorem dX7_plot_72 : decode cX7_plot 72 = .ok (.iconst 1, 1) := by decide +kernel
theorem dX7_plot_73 : decode cX7_plot 73 = .ok (.istore 8, 2) := by decide +kernel
theorem dX7_plot_75 : decode cX7_plot 75 = .ok (.iload 8, 2) := by decide +kernel
theorem dX7_plot_77 : decode cX7_plot 77 = .ok (.bipush 9, 2) := by decide +kernel
theorem dX7_plot_79 : decode cX7_plot 79 = .ok (.if_icmp .gt 48, 3) := by decide +kernel
theorem dX7_plot_82 : decode cX7_plot 82 = .ok (.aload_n 0, 1) := by decide +kernel
theorem dX7_plot_83 : decode cX7_plot 83 = .ok (.iload_n 1, 1) := by decide +kernel
theorem dX7_plot_84 : decode cX7_plot 84 = .ok (.iload_n 2, 1) := by decide +kernel
theorem dX7_plot_85 : decode cX7_plot 85 = .ok (.iload 7, 2) := by decide +kernel
theorem dX7_plot_87 : decode cX7_plot 87 = .ok (.iload 8, 2) := by decide +kernel
theorem dX7_plot_89 : decode cX7_plot 89 = .ok (.invokevirtual 172, 3) := by decide +kernel
theorem dX7_plot_92 : decode cX7_plot 92 = .ok (.istore 9, 2) := by decide +kernel
theorem dX7_plot_94 : decode cX7_plot 94 = .ok (.iload 9, 2) := by decide +kernel
theorem dX7_plot_96 : decode cX7_plot 96 = .ok (.iload 4, 2) := by decide +kernel
theorem dX7_plot_98 : decode cX7_plot 98 = .ok (.if_icmp .le 23, 3) := by decide +kernel
theorem dX7_plot_101 : decode cX7_plot 101 = .ok (.iload 9, 2) := by decide +kernel
theorem dX7_plot_103 : decode cX7_plot 103 = .ok (.istore 4, 2) := by decide +kernel
theorem dX7_plot_105 : decode cX7_plot 105 = .ok (.iconst 0, 1) := by decide +kernel
theorem dX7_plot_106 : decode cX7_plot 106 = .ok (.iload 7, 2) := by decide +kernel
theorem dX7_plot_108 : decode cX7_plot 108 = .ok (.invokestatic 176, 3) := by decide +kernel
theorem dX7_plot_111 : decode cX7_plot 111 = .ok (.istore 5, 2) := by decide +kernel
theorem dX7_plot_113 : decode cX7_plot 113 = .ok (.iconst 0, 1) := by decide +kernel
theorem dX7_plot_114 : decode cX7_plot 114 = .ok (.iload 8, 2) := by decide +kernel
theorem dX7_plot_116 : decode cX7_plot 116 = .ok (.invokestatic 176, 3) := by decide +kernel
theorem dX7_plot_119 : decode cX7_plot 119 = .ok (.istore 6, 2) := by decide +kernel
theorem dX7_plot_121 : decode cX7_plot 121 = .ok (.iinc 8 1, 3) := by decide +kernel
theorem dX7_plot_124 : decode cX7_plot 124 = .ok (.goto (-49), 3) := by decide +kernel
theorem dX7_plot_127 : decode cX7_plot 127 = .ok (.iinc 7 1, 3) := by decide +kernel
theorem dX7_plot_130 : decode cX7_plot 130 = .ok (.goto (-65), 3) := by decide +kernel
theorem dX7_plot_133 : decode cX7_plot 133 = .ok (.iload_n 3, 1) := by decide +kernel
theorem dX7_plot_134 : decode cX7_plot 134 = .ok (.ifCond .ne 6, 3) := by decide +kernel
theorem dX7_plot_137 : decode cX7_plot 137 = .ok (.iload 4, 2) := by decide +kernel
theorem dX7_plot_139 : decode cX7_plot 139 = .ok (.ireturn, 1) := by decide +kernel
theorem dX7_plot_140 : decode cX7_plot 140 = .ok (.iload_n 3, 1) := by decide +kernel
theorem dX7_plot_141 : decode cX7_plot 141 = .ok (.iconst 1, 1) := by decide +kernel
theorem dX7_plot_142 : decode cX7_plot 142 = .ok (.if_icmp .ne 8, 3) := by decide +kernel
theorem dX7_plot_145 : decode cX7_plot 145 = .ok (.iload 5, 2) := by decide +kernel
theorem dX7_plot_147 : decode cX7_plot 147 = .ok (.goto 5, 3) := by decide +kernel
theorem dX7_plot_150 : decode cX7_plot 150 = .ok (.iload 6, 2) := by decide +kernel
theorem dX7_plot_152 : decode cX7_plot 152 = .ok (.ireturn, 1) := by decide +kernel
theorem dX7_seen_0 : decode cX7_seen 0 = .ok (.aload_n 0, 1) := by decide +kernel
theorem dX7_seen_1 : decode cX7_seen 1 = .ok (.getfield 35, 3) := by decide +kernel
theorem dX7_seen_4 : decode cX7_seen 4 = .ok (.iload_n 1, 1) := by decide +kernel
theorem dX7_seen_5 : decode cX7_seen 5 = .ok (.invokevirtual 93, 3) := by decide +kernel
theorem dX7_seen_8 : decode cX7_seen 8 = .ok (.ifCond .ne 6, 3) := by decide +kernel
theorem dX7_seen_11 : decode cX7_seen 11 = .ok (.bipush (-2), 2) := by decide +kernel
theorem dX7_seen_13 : decode cX7_seen 13 = .ok (.ireturn, 1) := by decide +kernel
theorem dX7_seen_14 : decode cX7_seen 14 = .ok (.iload_n 2, 1) := by decide +kernel
theorem dX7_seen_15 : decode cX7_seen 15 = .ok (.iconst 1, 1) := by decide +kernel
theorem dX7_seen_16 : decode cX7_seen 16 = .ok (.if_icmp .lt 9, 3) := by decide +kernel
theorem dX7_seen_19 : decode cX7_seen 19 = .ok (.iload_n 2, 1) := by decide +kernel
theorem dX7_seen_20 : decode cX7_seen 20 = .ok (.bipush 60, 2) := by decide +kernel
theorem dX7_seen_22 : decode cX7_seen 22 = .ok (.if_icmp .le 6, 3) := by decide +kernel
theorem dX7_seen_25 : decode cX7_seen 25 = .ok (.bipush (-3), 2) := by decide +kernel
theorem dX7_seen_27 : decode cX7_seen 27 = .ok (.ireturn, 1) := by decide +kernel
theorem dX7_seen_28 : decode cX7_seen 28 = .ok (.aload_n 0, 1) := by decide +kernel
theorem dX7_seen_29 : decode cX7_seen 29 = .ok (.getfield 60, 3) := by decide +kernel
theorem dX7_seen_32 : decode cX7_seen 32 = .ok (.iload_n 1, 1) := by decide +kernel
theorem dX7_seen_33 : decode cX7_seen 33 = .ok (.iload_n 2, 1) := by decide +kernel
theorem dX7_seen_34 : decode cX7_seen 34 = .ok (.invokevirtual 180, 3) := by decide +kernel
theorem dX7_seen_37 : decode cX7_seen 37 = .ok (.ifCond .eq 13, 3) := by decide +kernel
theorem dX7_seen_40 : decode cX7_seen 40 = .ok (.aload_n 0, 1) := by decide +kernel
theorem dX7_seen_41 : decode cX7_seen 41 = .ok (.getfield 60, 3) := by decide +kernel
theorem dX7_seen_44 : decode cX7_seen 44 = .ok (.getfield 86, 3) := by decide +kernel
theorem dX7_seen_47 : decode cX7_seen 47 = .ok (.goto 5, 3) := by decide +kernel
theorem dX7_seen_50 : decode cX7_seen 50 = .ok (.bipush (-5), 2) := by decide +kernel
theorem dX7_seen_52 : decode cX7_seen 52 = .ok (.ireturn, 1) := by decide +kernel
theorem dX7_forget_0 : decode cX7_forget 0 = .ok (.aload_n 0, 1) := by decide +kernel
theorem dX7_forget_1 : decode cX7_forget 1 = .ok (.getfield 60, 3) := by decide +kernel
theorem dX7_forget_4 : decode cX7_forget 4 = .ok (.getfield 86, 3) := by decide +kernel
theorem dX7_forget_7 : decode cX7_forget 7 = .ok (.istore_n 1, 1) := by decide +kernel
theorem dX7_forget_8 : decode cX7_forget 8 = .ok (.aload_n 0, 1) := by decide +kernel
theorem dX7_forget_9 : decode cX7_forget 9 = .ok (.getfield 60, 3) := by decide +kernel
theorem dX7_forget_12 : decode cX7_forget 12 = .ok (.iconst 0, 1) := by decide +kernel
theorem dX7_forget_13 : decode cX7_forget 13 = .ok (.putfield 86, 3) := by decide +kernel
theorem dX7_forget_16 : decode cX7_forget 16 = .ok (.iload_n 1, 1) := by decide +kernel
theorem dX7_forget_17 : decode cX7_forget 17 = .ok (.ireturn, 1) := by decide +kernel
theorem dX7_wound_0 : decode cX7_wound 0 = .ok (.iconst 0, 1) := by decide +kernel
theorem dX7_wound_1 : decode cX7_wound 1 = .ok (.istore_n 1, 1) := by decide +kernel
theorem dX7_wound_2 : decode cX7_wound 2 = .ok (.iconst 0, 1) := by decide +kernel
theorem dX7_wound_3 : decode cX7_wound 3 = .ok (.istore_n 2, 1) := by decide +kernel
theorem dX7_wound_4 : decode cX7_wound 4 = .ok (.iload_n 2, 1) := by decide +kernel
theorem dX7_wound_5 : decode cX7_wound 5 = .ok (.bipush 8, 2) := by decide +kernel
theorem dX7_wound_7 : decode cX7_wound 7 = .ok (.if_icmp .gt 48, 3) := by decide +kernel
theorem dX7_wound_10 : decode cX7_wound 10 = .ok (.aload_n 0, 1) := by decide +kernel
theorem dX7_wound_11 : decode cX7_wound 11 = .ok (.getfield 39, 3) := by decide +kernel
theorem dX7_wound_14 : decode cX7_wound 14 = .ok (.aload_n 0, 1) := by decide +kernel
theorem dX7_wound_15 : decode cX7_wound 15 = .ok (.getfield 35, 3) := by decide +kernel
theorem dX7_wound_18 : decode cX7_wound 18 = .ok (.invokevirtual 164, 3) := by decide +kernel
theorem dX7_wound_21 : decode cX7_wound 21 = .ok (.aload_n 0, 1) := by decide +kernel
theorem dX7_wound_22 : decode cX7_wound 22 = .ok (.getfield 39, 3) := by decide +kernel
theorem dX7_wound_25 : decode cX7_wound 25 = .ok (.iload_n 2, 1) := by decide +kernel
theorem dX7_wound_26 : decode cX7_wound 26 = .ok (.invokevirtual 157, 3) := by decide +kernel
theorem dX7_wound_29 : decode cX7_wound 29 = .ok (.aload_n 0, 1) := by decide +kernel
theorem dX7_wound_30 : decode cX7_wound 30 = .ok (.getfield 60, 3) := by decide +kernel
theorem dX7_wound_33 : decode cX7_wound 33 = .ok (.aload_n 0, 1) := by decide +kernel
theorem dX7_wound_34 : decode cX7_wound 34 = .ok (.getfield 39, 3) := by decide +kernel
