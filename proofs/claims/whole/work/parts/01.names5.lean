theorem dX8_lays_38 : decode cX8_lays 38 = .ok (.aload_n 0, 1) := by decide +kernel
theorem dX8_lays_39 : decode cX8_lays 39 = .ok (.getfield 13, 3) := by decide +kernel
theorem dX8_lays_42 : decode cX8_lays 42 = .ok (.iconst 4, 1) := by decide +kernel
theorem dX8_lays_43 : decode cX8_lays 43 = .ok (.iaload, 1) := by decide +kernel
theorem dX8_lays_44 : decode cX8_lays 44 = .ok (.iastore, 1) := by decide +kernel
theorem dX8_lays_45 : decode cX8_lays 45 = .ok (.aload_n 0, 1) := by decide +kernel
theorem dX8_lays_46 : decode cX8_lays 46 = .ok (.getfield 19, 3) := by decide +kernel
theorem dX8_lays_49 : decode cX8_lays 49 = .ok (.iconst 4, 1) := by decide +kernel
theorem dX8_lays_50 : decode cX8_lays 50 = .ok (.iconst (-1), 1) := by decide +kernel
theorem dX8_lays_51 : decode cX8_lays 51 = .ok (.iastore, 1) := by decide +kernel
theorem dX8_lays_52 : decode cX8_lays 52 = .ok (.iconst 0, 1) := by decide +kernel
theorem dX8_lays_53 : decode cX8_lays 53 = .ok (.istore_n 1, 1) := by decide +kernel
theorem dX8_lays_54 : decode cX8_lays 54 = .ok (.iload_n 1, 1) := by decide +kernel
theorem dX8_lays_55 : decode cX8_lays 55 = .ok (.bipush 18, 2) := by decide +kernel
theorem dX8_lays_57 : decode cX8_lays 57 = .ok (.if_icmp .ge 26, 3) := by decide +kernel
theorem dX8_lays_60 : decode cX8_lays 60 = .ok (.aload_n 0, 1) := by decide +kernel
theorem dX8_lays_61 : decode cX8_lays 61 = .ok (.getfield 19, 3) := by decide +kernel
theorem dX8_lays_64 : decode cX8_lays 64 = .ok (.bipush 6, 2) := by decide +kernel
theorem dX8_lays_66 : decode cX8_lays 66 = .ok (.iload_n 1, 1) := by decide +kernel
theorem dX8_lays_67 : decode cX8_lays 67 = .ok (.iadd, 1) := by decide +kernel
theorem dX8_lays_68 : decode cX8_lays 68 = .ok (.aload_n 0, 1) := by decide +kernel
theorem dX8_lays_69 : decode cX8_lays 69 = .ok (.getfield 13, 3) := by decide +kernel
theorem dX8_lays_72 : decode cX8_lays 72 = .ok (.iconst 5, 1) := by decide +kernel
theorem dX8_lays_73 : decode cX8_lays 73 = .ok (.iload_n 1, 1) := by decide +kernel
theorem dX8_lays_74 : decode cX8_lays 74 = .ok (.iadd, 1) := by decide +kernel
theorem dX8_lays_75 : decode cX8_lays 75 = .ok (.iaload, 1) := by decide +kernel
theorem dX8_lays_76 : decode cX8_lays 76 = .ok (.iastore, 1) := by decide +kernel
theorem dX8_lays_77 : decode cX8_lays 77 = .ok (.iinc 1 1, 3) := by decide +kernel
theorem dX8_lays_80 : decode cX8_lays 80 = .ok (.goto (-26), 3) := by decide +kernel
theorem dX8_lays_83 : decode cX8_lays 83 = .ok (.aload_n 0, 1) := by decide +kernel
theorem dX8_lays_84 : decode cX8_lays 84 = .ok (.iconst 0, 1) := by decide +kernel
theorem dX8_lays_85 : decode cX8_lays 85 = .ok (.putfield 103, 3) := by decide +kernel
theorem dX8_lays_88 : decode cX8_lays 88 = .ok (.aload_n 0, 1) := by decide +kernel
theorem dX8_lays_89 : decode cX8_lays 89 = .ok (.iconst 0, 1) := by decide +kernel
theorem dX8_lays_90 : decode cX8_lays 90 = .ok (.putfield 106, 3) := by decide +kernel
theorem dX8_lays_93 : decode cX8_lays 93 = .ok (.aload_n 0, 1) := by decide +kernel
theorem dX8_lays_94 : decode cX8_lays 94 = .ok (.getfield 28, 3) := by decide +kernel
theorem dX8_lays_97 : decode cX8_lays 97 = .ok (.iconst 0, 1) := by decide +kernel
theorem dX8_lays_98 : decode cX8_lays 98 = .ok (.iconst 0, 1) := by decide +kernel
theorem dX8_lays_99 : decode cX8_lays 99 = .ok (.bastore, 1) := by decide +kernel
theorem dX8_lays_100 : decode cX8_lays 100 = .ok (.aload_n 0, 1) := by decide +kernel
theorem dX8_lays_101 : decode cX8_lays 101 = .ok (.getfield 28, 3) := by decide +kernel
theorem dX8_lays_104 : decode cX8_lays 104 = .ok (.iconst 1, 1) := by decide +kernel
theorem dX8_lays_105 : decode cX8_lays 105 = .ok (.iconst 0, 1) := by decide +kernel
theorem dX8_lays_106 : decode cX8_lays 106 = .ok (.bastore, 1) := by decide +kernel
theorem dX8_lays_107 : decode cX8_lays 107 = .ok (.return_, 1) := by decide +kernel
theorem dX8_fault_0 : decode cX8_fault 0 = .ok (.aload_n 0, 1) := by decide +kernel
theorem dX8_fault_1 : decode cX8_fault 1 = .ok (.invokevirtual 109, 3) := by decide +kernel
theorem dX8_fault_4 : decode cX8_fault 4 = .ok (.iconst (-1), 1) := by decide +kernel
theorem dX8_fault_5 : decode cX8_fault 5 = .ok (.if_icmp .ne 10, 3) := by decide +kernel
theorem dX8_fault_8 : decode cX8_fault 8 = .ok (.aload_n 0, 1) := by decide +kernel
theorem dX8_fault_9 : decode cX8_fault 9 = .ok (.getfield 60, 3) := by decide +kernel
theorem dX8_fault_12 : decode cX8_fault 12 = .ok (.goto 4, 3) := by decide +kernel
theorem dX8_fault_15 : decode cX8_fault 15 = .ok (.iconst (-1), 1) := by decide +kernel
theorem dX8_fault_16 : decode cX8_fault 16 = .ok (.ireturn, 1) := by decide +kernel
theorem dX8_parade_0 : decode cX8_parade 0 = .ok (.aload_n 0, 1) := by decide +kernel
theorem dX8_parade_1 : decode cX8_parade 1 = .ok (.invokevirtual 109, 3) := by decide +kernel
theorem dX8_parade_4 : decode cX8_parade 4 = .ok (.istore_n 1, 1) := by decide +kernel
theorem dX8_parade_5 : decode cX8_parade 5 = .ok (.iload_n 1, 1) := by decide +kernel
theorem dX8_parade_6 : decode cX8_parade 6 = .ok (.iconst (-1), 1) := by decide +kernel
theorem dX8_parade_7 : decode cX8_parade 7 = .ok (.if_icmp .ne 6, 3) := by decide +kernel
theorem dX8_parade_10 : decode cX8_parade 10 = .ok (.bipush (-4), 2) := by decide +kernel
theorem dX8_parade_12 : decode cX8_parade 12 = .ok (.ireturn, 1) := by decide +kernel
theorem dX8_parade_13 : decode cX8_parade 13 = .ok (.iconst 0, 1) := by decide +kernel
theorem dX8_parade_14 : decode cX8_parade 14 = .ok (.istore_n 2, 1) := by decide +kernel
theorem dX8_parade_15 : decode cX8_parade 15 = .ok (.iload_n 2, 1) := by decide +kernel
theorem dX8_parade_16 : decode cX8_parade 16 = .ok (.bipush 23, 2) := by decide +kernel
theorem dX8_parade_18 : decode cX8_parade 18 = .ok (.if_icmp .ge 21, 3) := by decide +kernel
theorem dX8_parade_21 : decode cX8_parade 21 = .ok (.aload_n 0, 1) := by decide +kernel
theorem dX8_parade_22 : decode cX8_parade 22 = .ok (.getfield 13, 3) := by decide +kernel
theorem dX8_parade_25 : decode cX8_parade 25 = .ok (.iload_n 2, 1) := by decide +kernel
theorem dX8_parade_26 : decode cX8_parade 26 = .ok (.aload_n 0, 1) := by decide +kernel
theorem dX8_parade_27 : decode cX8_parade 27 = .ok (.getfield 16, 3) := by decide +kernel
theorem dX8_parade_30 : decode cX8_parade 30 = .ok (.iload_n 2, 1) := by decide +kernel
theorem dX8_parade_31 : decode cX8_parade 31 = .ok (.iaload, 1) := by decide +kernel
theorem dX8_parade_32 : decode cX8_parade 32 = .ok (.iastore, 1) := by decide +kernel
theorem dX8_parade_33 : decode cX8_parade 33 = .ok (.iinc 2 1, 3) := by decide +kernel
theorem dX8_parade_36 : decode cX8_parade 36 = .ok (.goto (-21), 3) := by decide +kernel
theorem dX8_parade_39 : decode cX8_parade 39 = .ok (.aload_n 0, 1) := by decide +kernel
theorem dX8_parade_40 : decode cX8_parade 40 = .ok (.invokevirtual 42, 3) := by decide +kernel
theorem dX8_parade_43 : decode cX8_parade 43 = .ok (.aload_n 0, 1) := by decide +kernel
theorem dX8_parade_44 : decode cX8_parade 44 = .ok (.iconst 0, 1) := by decide +kernel
theorem dX8_parade_45 : decode cX8_parade 45 = .ok (.putfield 49, 3) := by decide +kernel
theorem dX8_parade_48 : decode cX8_parade 48 = .ok (.iload_n 1, 1) := by decide +kernel
theorem dX8_parade_49 : decode cX8_parade 49 = .ok (.ireturn, 1) := by decide +kernel
theorem dX8_mud_0 : decode cX8_mud 0 = .ok (.iload_n 1, 1) := by decide +kernel
theorem dX8_mud_1 : decode cX8_mud 1 = .ok (.iconst 0, 1) := by decide +kernel
theorem dX8_mud_2 : decode cX8_mud 2 = .ok (.aload_n 0, 1) := by decide +kernel
theorem dX8_mud_3 : decode cX8_mud 3 = .ok (.invokevirtual 113, 3) := by decide +kernel
theorem dX8_mud_6 : decode cX8_mud 6 = .ok (.iconst 1, 1) := by decide +kernel
theorem dX8_mud_7 : decode cX8_mud 7 = .ok (.isub, 1) := by decide +kernel
theorem dX8_mud_8 : decode cX8_mud 8 = .ok (.invokestatic 45, 3) := by decide +kernel
theorem dX8_mud_11 : decode cX8_mud 11 = .ok (.ifCond .eq 15, 3) := by decide +kernel
theorem dX8_mud_14 : decode cX8_mud 14 = .ok (.aload_n 0, 1) := by decide +kernel
theorem dX8_mud_15 : decode cX8_mud 15 = .ok (.getfield 19, 3) := by decide +kernel
theorem dX8_mud_18 : decode cX8_mud 18 = .ok (.bipush 30, 2) := by decide +kernel
theorem dX8_mud_20 : decode cX8_mud 20 = .ok (.iload_n 1, 1) := by decide +kernel
theorem dX8_mud_21 : decode cX8_mud 21 = .ok (.iadd, 1) := by decide +kernel
theorem dX8_mud_22 : decode cX8_mud 22 = .ok (.iaload, 1) := by decide +kernel
theorem dX8_mud_23 : decode cX8_mud 23 = .ok (.goto 5, 3) := by decide +kernel
theorem dX8_mud_26 : decode cX8_mud 26 = .ok (.bipush (-2), 2) := by decide +kernel
theorem dX8_mud_28 : decode cX8_mud 28 = .ok (.ireturn, 1) := by decide +kernel
theorem dX8_next_0 : decode cX8_next 0 = .ok (.bipush 8, 2) := by decide +kernel
theorem dX8_next_2 : decode cX8_next 2 = .ok (.bipush 8, 2) := by decide +kernel
theorem dX8_next_4 : decode cX8_next 4 = .ok (.iload_n 1, 1) := by decide +kernel
theorem dX8_next_5 : decode cX8_next 5 = .ok (.imul, 1) := by decide +kernel
theorem dX8_next_6 : decode cX8_next 6 = .ok (.iadd, 1) := by decide +kernel
theorem dX8_next_7 : decode cX8_next 7 = .ok (.iload_n 2, 1) := by decide +kernel
theorem dX8_next_8 : decode cX8_next 8 = .ok (.iadd, 1) := by decide +kernel
theorem dX8_next_9 : decode cX8_next 9 = .ok (.ireturn, 1) := by decide +kernel
theorem dX8_figure_0 : decode cX8_figure 0 = .ok (.iload_n 1, 1) := by decide +kernel
theorem dX8_figure_1 : decode cX8_figure 1 = .ok (.iconst 0, 1) := by decide +kernel
theorem dX8_figure_2 : decode cX8_figure 2 = .ok (.iconst 1, 1) := by decide +kernel
theorem dX8_figure_3 : decode cX8_figure 3 = .ok (.invokestatic 45, 3) := by decide +kernel
theorem dX8_figure_6 : decode cX8_figure 6 = .ok (.ifCond .eq 22, 3) := by decide +kernel
theorem dX8_figure_9 : decode cX8_figure 9 = .ok (.iload_n 2, 1) := by decide +kernel
theorem dX8_figure_10 : decode cX8_figure 10 = .ok (.iconst 0, 1) := by decide +kernel
theorem dX8_figure_11 : decode cX8_figure 11 = .ok (.aload_n 0, 1) := by decide +kernel
theorem dX8_figure_12 : decode cX8_figure 12 = .ok (.getfield 19, 3) := by decide +kernel
theorem dX8_figure_15 : decode cX8_figure 15 = .ok (.bipush 6, 2) := by decide +kernel
theorem dX8_figure_17 : decode cX8_figure 17 = .ok (.iload_n 1, 1) := by decide +kernel
theorem dX8_figure_18 : decode cX8_figure 18 = .ok (.iadd, 1) := by decide +kernel
theorem dX8_figure_19 : decode cX8_figure 19 = .ok (.iaload, 1) := by decide +kernel
theorem dX8_figure_20 : decode cX8_figure 20 = .ok (.iconst 1, 1) := by decide +kernel
theorem dX8_figure_21 : decode cX8_figure 21 = .ok (.isub, 1) := by decide +kernel
theorem dX8_figure_22 : decode cX8_figure 22 = .ok (.invokestatic 45, 3) := by decide +kernel
theorem dX8_figure_25 : decode cX8_figure 25 = .ok (.ifCond .ne 6, 3) := by decide +kernel
theorem dX8_figure_28 : decode cX8_figure 28 = .ok (.bipush (-2), 2) := by decide +kernel
theorem dX8_figure_30 : decode cX8_figure 30 = .ok (.ireturn, 1) := by decide +kernel
theorem dX8_figure_31 : decode cX8_figure 31 = .ok (.aload_n 0, 1) := by decide +kernel
theorem dX8_figure_32 : decode cX8_figure 32 = .ok (.getfield 19, 3) := by decide +kernel
theorem dX8_figure_35 : decode cX8_figure 35 = .ok (.aload_n 0, 1) := by decide +kernel
theorem dX8_figure_36 : decode cX8_figure 36 = .ok (.iload_n 1, 1) := by decide +kernel
theorem dX8_figure_37 : decode cX8_figure 37 = .ok (.iload_n 2, 1) := by decide +kernel
theorem dX8_figure_38 : decode cX8_figure 38 = .ok (.invokevirtual 116, 3) := by decide +kernel
theorem dX8_figure_41 : decode cX8_figure 41 = .ok (.iaload, 1) := by decide +kernel
theorem dX8_figure_42 : decode cX8_figure 42 = .ok (.istore 4, 2) := by decide +kernel
theorem dX8_figure_44 : decode cX8_figure 44 = .ok (.iload_n 3, 1) := by decide +kernel
theorem dX8_figure_45 : decode cX8_figure 45 = .ok (.ifCond .ne 11, 3) := by decide +kernel
theorem dX8_figure_48 : decode cX8_figure 48 = .ok (.iload 4, 2) := by decide +kernel
theorem dX8_figure_50 : decode cX8_figure 50 = .ok (.bipush 10, 2) := by decide +kernel
theorem dX8_figure_52 : decode cX8_figure 52 = .ok (.idiv, 1) := by decide +kernel
theorem dX8_figure_53 : decode cX8_figure 53 = .ok (.goto 18, 3) := by decide +kernel
theorem dX8_figure_56 : decode cX8_figure 56 = .ok (.iload_n 3, 1) := by decide +kernel
theorem dX8_figure_57 : decode cX8_figure 57 = .ok (.iconst 1, 1) := by decide +kernel
theorem dX8_figure_58 : decode cX8_figure 58 = .ok (.if_icmp .ne 11, 3) := by decide +kernel
theorem dX8_figure_61 : decode cX8_figure 61 = .ok (.iload 4, 2) := by decide +kernel
theorem dX8_figure_63 : decode cX8_figure 63 = .ok (.bipush 10, 2) := by decide +kernel
theorem dX8_figure_65 : decode cX8_figure 65 = .ok (.irem, 1) := by decide +kernel
theorem dX8_figure_66 : decode cX8_figure 66 = .ok (.goto 5, 3) := by decide +kernel
theorem dX8_figure_69 : decode cX8_figure 69 = .ok (.bipush (-3), 2) := by decide +kernel
theorem dX8_figure_71 : decode cX8_figure 71 = .ok (.ireturn, 1) := by decide +kernel
theorem dX8_army_0 : decode cX8_army 0 = .ok (.iload_n 1, 1) := by decide +kernel
theorem dX8_army_1 : decode cX8_army 1 = .ok (.iconst 0, 1) := by decide +kernel
theorem dX8_army_2 : decode cX8_army 2 = .ok (.iconst 1, 1) := by decide +kernel
theorem dX8_army_3 : decode cX8_army 3 = .ok (.invokestatic 45, 3) := by decide +kernel
theorem dX8_army_6 : decode cX8_army 6 = .ok (.ifCond .ne 6, 3) := by decide +kernel
theorem dX8_army_9 : decode cX8_army 9 = .ok (.bipush (-2), 2) := by decide +kernel
theorem dX8_army_11 : decode cX8_army 11 = .ok (.ireturn, 1) := by decide +kernel
theorem dX8_army_12 : decode cX8_army 12 = .ok (.iload_n 2, 1) := by decide +kernel
theorem dX8_army_13 : decode cX8_army 13 = .ok (.tableswitch 65 0 2 #[27, 37, 47], 27) := by decide +kernel
theorem dX8_army_40 : decode cX8_army 40 = .ok (.aload_n 0, 1) := by decide +kernel
theorem dX8_army_41 : decode cX8_army 41 = .ok (.getfield 19, 3) := by decide +kernel
theorem dX8_army_44 : decode cX8_army 44 = .ok (.bipush 6, 2) := by decide +kernel
theorem dX8_army_46 : decode cX8_army 46 = .ok (.iload_n 1, 1) := by decide +kernel
theorem dX8_army_47 : decode cX8_army 47 = .ok (.iadd, 1) := by decide +kernel
theorem dX8_army_48 : decode cX8_army 48 = .ok (.iaload, 1) := by decide +kernel
theorem dX8_army_49 : decode cX8_army 49 = .ok (.ireturn, 1) := by decide +kernel
theorem dX8_army_50 : decode cX8_army 50 = .ok (.aload_n 0, 1) := by decide +kernel
theorem dX8_army_51 : decode cX8_army 51 = .ok (.getfield 19, 3) := by decide +kernel
theorem dX8_army_54 : decode cX8_army 54 = .ok (.bipush 24, 2) := by decide +kernel
theorem dX8_army_56 : decode cX8_army 56 = .ok (.iload_n 1, 1) := by decide +kernel
theorem dX8_army_57 : decode cX8_army 57 = .ok (.iadd, 1) := by decide +kernel
theorem dX8_army_58 : decode cX8_army 58 = .ok (.iaload, 1) := by decide +kernel
theorem dX8_army_59 : decode cX8_army 59 = .ok (.ireturn, 1) := by decide +kernel
theorem dX8_army_60 : decode cX8_army 60 = .ok (.aload_n 0, 1) := by decide +kernel
theorem dX8_army_61 : decode cX8_army 61 = .ok (.getfield 19, 3) := by decide +kernel
theorem dX8_army_64 : decode cX8_army 64 = .ok (.iconst 0, 1) := by decide +kernel
theorem dX8_army_65 : decode cX8_army 65 = .ok (.iaload, 1) := by decide +kernel
theorem dX8_army_66 : decode cX8_army 66 = .ok (.iconst 2, 1) := by decide +kernel
theorem dX8_army_67 : decode cX8_army 67 = .ok (.irem, 1) := by decide +kernel
theorem dX8_army_68 : decode cX8_army 68 = .ok (.iload_n 1, 1) := by decide +kernel
theorem dX8_army_69 : decode cX8_army 69 = .ok (.if_icmp .ne 7, 3) := by decide +kernel
theorem dX8_army_72 : decode cX8_army 72 = .ok (.iconst 1, 1) := by decide +kernel
theorem dX8_army_73 : decode cX8_army 73 = .ok (.goto 4, 3) := by decide +kernel
theorem dX8_army_76 : decode cX8_army 76 = .ok (.iconst 0, 1) := by decide +kernel
theorem dX8_army_77 : decode cX8_army 77 = .ok (.ireturn, 1) := by decide +kernel
theorem dX8_army_78 : decode cX8_army 78 = .ok (.bipush (-3), 2) := by decide +kernel
theorem dX8_army_80 : decode cX8_army 80 = .ok (.ireturn, 1) := by decide +kernel
theorem dX8_as_0 : decode cX8_as 0 = .ok (.iload_n 1, 1) := by decide +kernel
theorem dX8_as_1 : decode cX8_as 1 = .ok (.iconst 0, 1) := by decide +kernel
theorem dX8_as_2 : decode cX8_as 2 = .ok (.iconst 1, 1) := by decide +kernel
theorem dX8_as_3 : decode cX8_as 3 = .ok (.invokestatic 45, 3) := by decide +kernel
theorem dX8_as_6 : decode cX8_as 6 = .ok (.ifCond .ne 6, 3) := by decide +kernel
theorem dX8_as_9 : decode cX8_as 9 = .ok (.bipush (-2), 2) := by decide +kernel
theorem dX8_as_11 : decode cX8_as 11 = .ok (.ireturn, 1) := by decide +kernel
theorem dX8_as_12 : decode cX8_as 12 = .ok (.iload_n 2, 1) := by decide +kernel
theorem dX8_as_13 : decode cX8_as 13 = .ok (.iconst 0, 1) := by decide +kernel
theorem dX8_as_14 : decode cX8_as 14 = .ok (.iconst 5, 1) := by decide +kernel
theorem dX8_as_15 : decode cX8_as 15 = .ok (.invokestatic 45, 3) := by decide +kernel
theorem dX8_as_18 : decode cX8_as 18 = .ok (.ifCond .ne 6, 3) := by decide +kernel
theorem dX8_as_21 : decode cX8_as 21 = .ok (.bipush (-3), 2) := by decide +kernel
theorem dX8_as_23 : decode cX8_as 23 = .ok (.ireturn, 1) := by decide +kernel
theorem dX8_as_24 : decode cX8_as 24 = .ok (.aload_n 0, 1) := by decide +kernel
theorem dX8_as_25 : decode cX8_as 25 = .ok (.getfield 19, 3) := by decide +kernel
theorem dX8_as_28 : decode cX8_as 28 = .ok (.bipush 6, 2) := by decide +kernel
theorem dX8_as_30 : decode cX8_as 30 = .ok (.iload_n 1, 1) := by decide +kernel
theorem dX8_as_31 : decode cX8_as 31 = .ok (.iadd, 1) := by decide +kernel
theorem dX8_as_32 : decode cX8_as 32 = .ok (.iaload, 1) := by decide +kernel
theorem dX8_as_33 : decode cX8_as 33 = .ok (.ifCond .ne 6, 3) := by decide +kernel
theorem dX8_as_36 : decode cX8_as 36 = .ok (.bipush (-4), 2) := by decide +kernel
theorem dX8_as_38 : decode cX8_as 38 = .ok (.ireturn, 1) := by decide +kernel
theorem dX8_as_39 : decode cX8_as 39 = .ok (.aload_n 0, 1) := by decide +kernel
theorem dX8_as_40 : decode cX8_as 40 = .ok (.getfield 19, 3) := by decide +kernel
theorem dX8_as_43 : decode cX8_as 43 = .ok (.aload_n 0, 1) := by decide +kernel
theorem dX8_as_44 : decode cX8_as 44 = .ok (.iload_n 1, 1) := by decide +kernel
theorem dX8_as_45 : decode cX8_as 45 = .ok (.iconst 0, 1) := by decide +kernel
theorem dX8_as_46 : decode cX8_as 46 = .ok (.invokevirtual 116, 3) := by decide +kernel
theorem dX8_as_49 : decode cX8_as 49 = .ok (.iaload, 1) := by decide +kernel
theorem dX8_as_50 : decode cX8_as 50 = .ok (.bipush 10, 2) := by decide +kernel
theorem dX8_as_52 : decode cX8_as 52 = .ok (.idiv, 1) := by decide +kernel
theorem dX8_as_53 : decode cX8_as 53 = .ok (.istore_n 3, 1) := by decide +kernel
theorem dX8_as_54 : decode cX8_as 54 = .ok (.iload_n 2, 1) := by decide +kernel
theorem dX8_as_55 : decode cX8_as 55 = .ok (.ifCond .eq 20, 3) := by decide +kernel
theorem dX8_as_58 : decode cX8_as 58 = .ok (.iload_n 2, 1) := by decide +kernel
theorem dX8_as_59 : decode cX8_as 59 = .ok (.iload_n 3, 1) := by decide +kernel
theorem dX8_as_60 : decode cX8_as 60 = .ok (.iconst 1, 1) := by decide +kernel
theorem dX8_as_61 : decode cX8_as 61 = .ok (.iadd, 1) := by decide +kernel
theorem dX8_as_62 : decode cX8_as 62 = .ok (.if_icmp .eq 13, 3) := by decide +kernel
theorem dX8_as_65 : decode cX8_as 65 = .ok (.iload_n 2, 1) := by decide +kernel
theorem dX8_as_66 : decode cX8_as 66 = .ok (.iconst 1, 1) := by decide +kernel
theorem dX8_as_67 : decode cX8_as 67 = .ok (.if_icmp .ne 12, 3) := by decide +kernel
theorem dX8_as_70 : decode cX8_as 70 = .ok (.iload_n 3, 1) := by decide +kernel
theorem dX8_as_71 : decode cX8_as 71 = .ok (.iconst 3, 1) := by decide +kernel
theorem dX8_as_72 : decode cX8_as 72 = .ok (.if_icmp .ge 7, 3) := by decide +kernel
theorem dX8_as_75 : decode cX8_as 75 = .ok (.iconst 1, 1) := by decide +kernel
theorem dX8_as_76 : decode cX8_as 76 = .ok (.goto 4, 3) := by decide +kernel
theorem dX8_as_79 : decode cX8_as 79 = .ok (.iconst 0, 1) := by decide +kernel
theorem dX8_as_80 : decode cX8_as 80 = .ok (.istore 4, 2) := by decide +kernel
theorem dX8_as_82 : decode cX8_as 82 = .ok (.iload 4, 2) := by decide +kernel
theorem dX8_as_84 : decode cX8_as 84 = .ok (.ifCond .ne 8, 3) := by decide +kernel
theorem dX8_as_87 : decode cX8_as 87 = .ok (.bipush (-4), 2) := by decide +kernel
theorem dX8_as_89 : decode cX8_as 89 = .ok (.goto 22, 3) := by decide +kernel
theorem dX8_as_92 : decode cX8_as 92 = .ok (.iload_n 3, 1) := by decide +kernel
theorem dX8_as_93 : decode cX8_as 93 = .ok (.iconst 2, 1) := by decide +kernel
theorem dX8_as_94 : decode cX8_as 94 = .ok (.if_icmp .ne 7, 3) := by decide +kernel
theorem dX8_as_97 : decode cX8_as 97 = .ok (.iconst 2, 1) := by decide +kernel
theorem dX8_as_98 : decode cX8_as 98 = .ok (.goto 13, 3) := by decide +kernel
theorem dX8_as_101 : decode cX8_as 101 = .ok (.iload_n 3, 1) := by decide +kernel
theorem dX8_as_102 : decode cX8_as 102 = .ok (.iconst 3, 1) := by decide +kernel
theorem dX8_as_103 : decode cX8_as 103 = .ok (.if_icmp .ge 7, 3) := by decide +kernel
theorem dX8_as_106 : decode cX8_as 106 = .ok (.iconst 1, 1) := by decide +kernel
theorem dX8_as_107 : decode cX8_as 107 = .ok (.goto 4, 3) := by decide +kernel
theorem dX8_as_110 : decode cX8_as 110 = .ok (.iconst 0, 1) := by decide +kernel
theorem dX8_as_111 : decode cX8_as 111 = .ok (.ireturn, 1) := by decide +kernel
theorem dX8_steps_0 : decode cX8_steps 0 = .ok (.aload_n 0, 1) := by decide +kernel
theorem dX8_steps_1 : decode cX8_steps 1 = .ok (.getfield 13, 3) := by decide +kernel
theorem dX8_steps_4 : decode cX8_steps 4 = .ok (.iconst 0, 1) := by decide +kernel
theorem dX8_steps_5 : decode cX8_steps 5 = .ok (.iaload, 1) := by decide +kernel
theorem dX8_steps_6 : decode cX8_steps 6 = .ok (.istore_n 2, 1) := by decide +kernel
theorem dX8_steps_7 : decode cX8_steps 7 = .ok (.aload_n 0, 1) := by decide +kernel
theorem dX8_steps_8 : decode cX8_steps 8 = .ok (.getfield 19, 3) := by decide +kernel
theorem dX8_steps_11 : decode cX8_steps 11 = .ok (.iconst 2, 1) := by decide +kernel
theorem dX8_steps_12 : decode cX8_steps 12 = .ok (.iaload, 1) := by decide +kernel
theorem dX8_steps_13 : decode cX8_steps 13 = .ok (.iload_n 2, 1) := by decide +kernel
theorem dX8_steps_14 : decode cX8_steps 14 = .ok (.irem, 1) := by decide +kernel
theorem dX8_steps_15 : decode cX8_steps 15 = .ok (.iload_n 1, 1) := by decide +kernel
theorem dX8_steps_16 : decode cX8_steps 16 = .ok (.iconst 1, 1) := by decide +kernel
theorem dX8_steps_17 : decode cX8_steps 17 = .ok (.if_icmp .ne 7, 3) := by decide +kernel
theorem dX8_steps_20 : decode cX8_steps 20 = .ok (.iconst 1, 1) := by decide +kernel
theorem dX8_steps_21 : decode cX8_steps 21 = .ok (.goto 13, 3) := by decide +kernel
theorem dX8_steps_24 : decode cX8_steps 24 = .ok (.iload_n 1, 1) := by decide +kernel
theorem dX8_steps_25 : decode cX8_steps 25 = .ok (.iconst 3, 1) := by decide +kernel
theorem dX8_steps_26 : decode cX8_steps 26 = .ok (.if_icmp .ne 7, 3) := by decide +kernel
theorem dX8_steps_29 : decode cX8_steps 29 = .ok (.iconst (-1), 1) := by decide +kernel
theorem dX8_steps_30 : decode cX8_steps 30 = .ok (.goto 4, 3) := by decide +kernel
theorem dX8_steps_33 : decode cX8_steps 33 = .ok (.iconst 0, 1) := by decide +kernel
theorem dX8_steps_34 : decode cX8_steps 34 = .ok (.iadd, 1) := by decide +kernel
theorem dX8_steps_35 : decode cX8_steps 35 = .ok (.istore_n 3, 1) := by decide +kernel
theorem dX8_steps_36 : decode cX8_steps 36 = .ok (.aload_n 0, 1) := by decide +kernel
theorem dX8_steps_37 : decode cX8_steps 37 = .ok (.getfield 19, 3) := by decide +kernel
theorem dX8_steps_40 : decode cX8_steps 40 = .ok (.iconst 2, 1) := by decide +kernel
theorem dX8_steps_41 : decode cX8_steps 41 = .ok (.iaload, 1) := by decide +kernel
theorem dX8_steps_42 : decode cX8_steps 42 = .ok (.iload_n 2, 1) := by decide +kernel
theorem dX8_steps_43 : decode cX8_steps 43 = .ok (.idiv, 1) := by decide +kernel
theorem dX8_steps_44 : decode cX8_steps 44 = .ok (.iload_n 1, 1) := by decide +kernel
theorem dX8_steps_45 : decode cX8_steps 45 = .ok (.iconst 2, 1) := by decide +kernel
theorem dX8_steps_46 : decode cX8_steps 46 = .ok (.if_icmp .ne 7, 3) := by decide +kernel
theorem dX8_steps_49 : decode cX8_steps 49 = .ok (.iconst 1, 1) := by decide +kernel
theorem dX8_steps_50 : decode cX8_steps 50 = .ok (.goto 12, 3) := by decide +kernel
theorem dX8_steps_53 : decode cX8_steps 53 = .ok (.iload_n 1, 1) := by decide +kernel
theorem dX8_steps_54 : decode cX8_steps 54 = .ok (.ifCond .ne 7, 3) := by decide +kernel
theorem dX8_steps_57 : decode cX8_steps 57 = .ok (.iconst (-1), 1) := by decide +kernel
theorem dX8_steps_58 : decode cX8_steps 58 = .ok (.goto 4, 3) := by decide +kernel
theorem dX8_steps_61 : decode cX8_steps 61 = .ok (.iconst 0, 1) := by decide +kernel
theorem dX8_steps_62 : decode cX8_steps 62 = .ok (.iadd, 1) := by decide +kernel
theorem dX8_steps_63 : decode cX8_steps 63 = .ok (.istore 4, 2) := by decide +kernel
theorem dX8_steps_65 : decode cX8_steps 65 = .ok (.iload_n 3, 1) := by decide +kernel
theorem dX8_steps_66 : decode cX8_steps 66 = .ok (.iconst 0, 1) := by decide +kernel
theorem dX8_steps_67 : decode cX8_steps 67 = .ok (.iload_n 2, 1) := by decide +kernel
theorem dX8_steps_68 : decode cX8_steps 68 = .ok (.iconst 1, 1) := by decide +kernel
theorem dX8_steps_69 : decode cX8_steps 69 = .ok (.isub, 1) := by decide +kernel
theorem dX8_steps_70 : decode cX8_steps 70 = .ok (.invokestatic 45, 3) := by decide +kernel
theorem dX8_steps_73 : decode cX8_steps 73 = .ok (.ifCond .eq 53, 3) := by decide +kernel
theorem dX8_steps_76 : decode cX8_steps 76 = .ok (.iload 4, 2) := by decide +kernel
theorem dX8_steps_78 : decode cX8_steps 78 = .ok (.iconst 0, 1) := by decide +kernel
theorem dX8_steps_79 : decode cX8_steps 79 = .ok (.aload_n 0, 1) := by decide +kernel
theorem dX8_steps_80 : decode cX8_steps 80 = .ok (.getfield 13, 3) := by decide +kernel
theorem dX8_steps_83 : decode cX8_steps 83 = .ok (.iconst 1, 1) := by decide +kernel
theorem dX8_steps_84 : decode cX8_steps 84 = .ok (.iaload, 1) := by decide +kernel
theorem dX8_steps_85 : decode cX8_steps 85 = .ok (.iconst 1, 1) := by decide +kernel
theorem dX8_steps_86 : decode cX8_steps 86 = .ok (.isub, 1) := by decide +kernel
theorem dX8_steps_87 : decode cX8_steps 87 = .ok (.invokestatic 45, 3) := by decide +kernel
theorem dX8_steps_90 : decode cX8_steps 90 = .ok (.ifCond .eq 36, 3) := by decide +kernel
theorem dX8_steps_93 : decode cX8_steps 93 = .ok (.aload_n 0, 1) := by decide +kernel
theorem dX8_steps_94 : decode cX8_steps 94 = .ok (.getfield 19, 3) := by decide +kernel
theorem dX8_steps_97 : decode cX8_steps 97 = .ok (.iconst 2, 1) := by decide +kernel
theorem dX8_steps_98 : decode cX8_steps 98 = .ok (.iload_n 2, 1) := by decide +kernel
theorem dX8_steps_99 : decode cX8_steps 99 = .ok (.iload 4, 2) := by decide +kernel
theorem dX8_steps_101 : decode cX8_steps 101 = .ok (.imul, 1) := by decide +kernel
theorem dX8_steps_102 : decode cX8_steps 102 = .ok (.iload_n 3, 1) := by decide +kernel
theorem dX8_steps_103 : decode cX8_steps 103 = .ok (.iadd, 1) := by decide +kernel
theorem dX8_steps_104 : decode cX8_steps 104 = .ok (.iastore, 1) := by decide +kernel
theorem dX8_steps_105 : decode cX8_steps 105 = .ok (.aload_n 0, 1) := by decide +kernel
theorem dX8_steps_106 : decode cX8_steps 106 = .ok (.getfield 19, 3) := by decide +kernel
theorem dX8_steps_109 : decode cX8_steps 109 = .ok (.bipush 30, 2) := by decide +kernel
theorem dX8_steps_111 : decode cX8_steps 111 = .ok (.aload_n 0, 1) := by decide +kernel
theorem dX8_steps_112 : decode cX8_steps 112 = .ok (.getfield 19, 3) := by decide +kernel
theorem dX8_steps_115 : decode cX8_steps 115 = .ok (.iconst 2, 1) := by decide +kernel
theorem dX8_steps_116 : decode cX8_steps 116 = .ok (.iaload, 1) := by decide +kernel
theorem dX8_steps_117 : decode cX8_steps 117 = .ok (.iadd, 1) := by decide +kernel
theorem dX8_steps_118 : decode cX8_steps 118 = .ok (.dup2, 1) := by decide +kernel
theorem dX8_steps_119 : decode cX8_steps 119 = .ok (.iaload, 1) := by decide +kernel
theorem dX8_steps_120 : decode cX8_steps 120 = .ok (.iconst 1, 1) := by decide +kernel
theorem dX8_steps_121 : decode cX8_steps 121 = .ok (.iadd, 1) := by decide +kernel
theorem dX8_steps_122 : decode cX8_steps 122 = .ok (.iastore, 1) := by decide +kernel
theorem dX8_steps_123 : decode cX8_steps 123 = .ok (.goto 16, 3) := by decide +kernel
theorem dX8_steps_126 : decode cX8_steps 126 = .ok (.aload_n 0, 1) := by decide +kernel
theorem dX8_steps_127 : decode cX8_steps 127 = .ok (.getfield 19, 3) := by decide +kernel
theorem dX8_steps_130 : decode cX8_steps 130 = .ok (.bipush 26, 2) := by decide +kernel
theorem dX8_steps_132 : decode cX8_steps 132 = .ok (.iload_n 1, 1) := by decide +kernel
theorem dX8_steps_133 : decode cX8_steps 133 = .ok (.iadd, 1) := by decide +kernel
theorem dX8_steps_134 : decode cX8_steps 134 = .ok (.dup2, 1) := by decide +kernel
theorem dX8_steps_135 : decode cX8_steps 135 = .ok (.iaload, 1) := by decide +kernel
theorem dX8_steps_136 : decode cX8_steps 136 = .ok (.iconst 1, 1) := by decide +kernel
theorem dX8_steps_137 : decode cX8_steps 137 = .ok (.iadd, 1) := by decide +kernel
theorem dX8_steps_138 : decode cX8_steps 138 = .ok (.iastore, 1) := by decide +kernel
theorem dX8_steps_139 : decode cX8_steps 139 = .ok (.return_, 1) := by decide +kernel
theorem dX8_begins_0 : decode cX8_begins 0 = .ok (.aload_n 0, 1) := by decide +kernel
theorem dX8_begins_1 : decode cX8_begins 1 = .ok (.getfield 19, 3) := by decide +kernel
theorem dX8_begins_4 : decode cX8_begins 4 = .ok (.aload_n 0, 1) := by decide +kernel
theorem dX8_begins_5 : decode cX8_begins 5 = .ok (.iload_n 1, 1) := by decide +kernel
theorem dX8_begins_6 : decode cX8_begins 6 = .ok (.iconst 0, 1) := by decide +kernel
theorem dX8_begins_7 : decode cX8_begins 7 = .ok (.invokevirtual 116, 3) := by decide +kernel
theorem dX8_begins_10 : decode cX8_begins 10 = .ok (.iaload, 1) := by decide +kernel
theorem dX8_begins_11 : decode cX8_begins 11 = .ok (.istore_n 2, 1) := by decide +kernel
theorem dX8_begins_12 : decode cX8_begins 12 = .ok (.aload_n 0, 1) := by decide +kernel
theorem dX8_begins_13 : decode cX8_begins 13 = .ok (.getfield 19, 3) := by decide +kernel
theorem dX8_begins_16 : decode cX8_begins 16 = .ok (.bipush 6, 2) := by decide +kernel
theorem dX8_begins_18 : decode cX8_begins 18 = .ok (.iload_n 1, 1) := by decide +kernel
theorem dX8_begins_19 : decode cX8_begins 19 = .ok (.iadd, 1) := by decide +kernel
theorem dX8_begins_20 : decode cX8_begins 20 = .ok (.dup2, 1) := by decide +kernel
theorem dX8_begins_21 : decode cX8_begins 21 = .ok (.iaload, 1) := by decide +kernel
theorem dX8_begins_22 : decode cX8_begins 22 = .ok (.iconst 1, 1) := by decide +kernel
theorem dX8_begins_23 : decode cX8_begins 23 = .ok (.isub, 1) := by decide +kernel
theorem dX8_begins_24 : decode cX8_begins 24 = .ok (.iastore, 1) := by decide +kernel
theorem dX8_begins_25 : decode cX8_begins 25 = .ok (.iconst 0, 1) := by decide +kernel
theorem dX8_begins_26 : decode cX8_begins 26 = .ok (.istore_n 3, 1) := by decide +kernel
theorem dX8_begins_27 : decode cX8_begins 27 = .ok (.iload_n 3, 1) := by decide +kernel
theorem dX8_begins_28 : decode cX8_begins 28 = .ok (.aload_n 0, 1) := by decide +kernel
theorem dX8_begins_29 : decode cX8_begins 29 = .ok (.getfield 19, 3) := by decide +kernel
theorem dX8_begins_32 : decode cX8_begins 32 = .ok (.bipush 6, 2) := by decide +kernel
theorem dX8_begins_34 : decode cX8_begins 34 = .ok (.iload_n 1, 1) := by decide +kernel
theorem dX8_begins_35 : decode cX8_begins 35 = .ok (.iadd, 1) := by decide +kernel
theorem dX8_begins_36 : decode cX8_begins 36 = .ok (.iaload, 1) := by decide +kernel
theorem dX8_begins_37 : decode cX8_begins 37 = .ok (.if_icmp .ge 33, 3) := by decide +kernel
theorem dX8_begins_40 : decode cX8_begins 40 = .ok (.aload_n 0, 1) := by decide +kernel
theorem dX8_begins_41 : decode cX8_begins 41 = .ok (.getfield 19, 3) := by decide +kernel
theorem dX8_begins_44 : decode cX8_begins 44 = .ok (.aload_n 0, 1) := by decide +kernel
theorem dX8_begins_45 : decode cX8_begins 45 = .ok (.iload_n 1, 1) := by decide +kernel
theorem dX8_begins_46 : decode cX8_begins 46 = .ok (.iload_n 3, 1) := by decide +kernel
theorem dX8_begins_47 : decode cX8_begins 47 = .ok (.invokevirtual 116, 3) := by decide +kernel
theorem dX8_begins_50 : decode cX8_begins 50 = .ok (.aload_n 0, 1) := by decide +kernel
theorem dX8_begins_51 : decode cX8_begins 51 = .ok (.getfield 19, 3) := by decide +kernel
theorem dX8_begins_54 : decode cX8_begins 54 = .ok (.aload_n 0, 1) := by decide +kernel
theorem dX8_begins_55 : decode cX8_begins 55 = .ok (.iload_n 1, 1) := by decide +kernel
theorem dX8_begins_56 : decode cX8_begins 56 = .ok (.iload_n 3, 1) := by decide +kernel
theorem dX8_begins_57 : decode cX8_begins 57 = .ok (.iconst 1, 1) := by decide +kernel
theorem dX8_begins_58 : decode cX8_begins 58 = .ok (.iadd, 1) := by decide +kernel
theorem dX8_begins_59 : decode cX8_begins 59 = .ok (.invokevirtual 116, 3) := by decide +kernel
theorem dX8_begins_62 : decode cX8_begins 62 = .ok (.iaload, 1) := by decide +kernel
theorem dX8_begins_63 : decode cX8_begins 63 = .ok (.iastore, 1) := by decide +kernel
theorem dX8_begins_64 : decode cX8_begins 64 = .ok (.iinc 3 1, 3) := by decide +kernel
theorem dX8_begins_67 : decode cX8_begins 67 = .ok (.goto (-40), 3) := by decide +kernel
theorem dX8_begins_70 : decode cX8_begins 70 = .ok (.aload_n 0, 1) := by decide +kernel
theorem dX8_begins_71 : decode cX8_begins 71 = .ok (.getfield 19, 3) := by decide +kernel
theorem dX8_begins_74 : decode cX8_begins 74 = .ok (.iconst 4, 1) := by decide +kernel
theorem dX8_begins_75 : decode cX8_begins 75 = .ok (.iload_n 2, 1) := by decide +kernel
theorem dX8_begins_76 : decode cX8_begins 76 = .ok (.bipush 10, 2) := by decide +kernel
theorem dX8_begins_78 : decode cX8_begins 78 = .ok (.idiv, 1) := by decide +kernel
theorem dX8_begins_79 : decode cX8_begins 79 = .ok (.iastore, 1) := by decide +kernel
theorem dX8_begins_80 : decode cX8_begins 80 = .ok (.aload_n 0, 1) := by decide +kernel
theorem dX8_begins_81 : decode cX8_begins 81 = .ok (.getfield 19, 3) := by decide +kernel
theorem dX8_begins_84 : decode cX8_begins 84 = .ok (.iconst 5, 1) := by decide +kernel
theorem dX8_begins_85 : decode cX8_begins 85 = .ok (.iload_n 2, 1) := by decide +kernel
theorem dX8_begins_86 : decode cX8_begins 86 = .ok (.bipush 10, 2) := by decide +kernel
theorem dX8_begins_88 : decode cX8_begins 88 = .ok (.irem, 1) := by decide +kernel
theorem dX8_begins_89 : decode cX8_begins 89 = .ok (.iastore, 1) := by decide +kernel
theorem dX8_begins_90 : decode cX8_begins 90 = .ok (.return_, 1) := by decide +kernel
theorem dX8_goes_0 : decode cX8_goes 0 = .ok (.aload_n 0, 1) := by decide +kernel
theorem dX8_goes_1 : decode cX8_goes 1 = .ok (.getfield 19, 3) := by decide +kernel
theorem dX8_goes_4 : decode cX8_goes 4 = .ok (.iconst 0, 1) := by decide +kernel
theorem dX8_goes_5 : decode cX8_goes 5 = .ok (.iaload, 1) := by decide +kernel
theorem dX8_goes_6 : decode cX8_goes 6 = .ok (.iconst 2, 1) := by decide +kernel
theorem dX8_goes_7 : decode cX8_goes 7 = .ok (.irem, 1) := by decide +kernel
theorem dX8_goes_8 : decode cX8_goes 8 = .ok (.istore_n 1, 1) := by decide +kernel
theorem dX8_goes_9 : decode cX8_goes 9 = .ok (.iconst (-1), 1) := by decide +kernel
theorem dX8_goes_10 : decode cX8_goes 10 = .ok (.istore_n 2, 1) := by decide +kernel
theorem dX8_goes_11 : decode cX8_goes 11 = .ok (.aload_n 0, 1) := by decide +kernel
theorem dX8_goes_12 : decode cX8_goes 12 = .ok (.getfield 19, 3) := by decide +kernel
theorem dX8_goes_15 : decode cX8_goes 15 = .ok (.iconst 4, 1) := by decide +kernel
theorem dX8_goes_16 : decode cX8_goes 16 = .ok (.iaload, 1) := by decide +kernel
theorem dX8_goes_17 : decode cX8_goes 17 = .ok (.iconst (-1), 1) := by decide +kernel
theorem dX8_goes_18 : decode cX8_goes 18 = .ok (.if_icmp .ne 20, 3) := by decide +kernel
theorem dX8_goes_21 : decode cX8_goes 21 = .ok (.aload_n 0, 1) := by decide +kernel
theorem dX8_goes_22 : decode cX8_goes 22 = .ok (.getfield 19, 3) := by decide +kernel
theorem dX8_goes_25 : decode cX8_goes 25 = .ok (.bipush 6, 2) := by decide +kernel
theorem dX8_goes_27 : decode cX8_goes 27 = .ok (.iload_n 1, 1) := by decide +kernel
theorem dX8_goes_28 : decode cX8_goes 28 = .ok (.iadd, 1) := by decide +kernel
theorem dX8_goes_29 : decode cX8_goes 29 = .ok (.iaload, 1) := by decide +kernel
theorem dX8_goes_30 : decode cX8_goes 30 = .ok (.ifCond .le 8, 3) := by decide +kernel
theorem dX8_goes_33 : decode cX8_goes 33 = .ok (.aload_n 0, 1) := by decide +kernel
theorem dX8_goes_34 : decode cX8_goes 34 = .ok (.iload_n 1, 1) := by decide +kernel
theorem dX8_goes_35 : decode cX8_goes 35 = .ok (.invokevirtual 120, 3) := by decide +kernel
theorem dX8_goes_38 : decode cX8_goes 38 = .ok (.aload_n 0, 1) := by decide +kernel
theorem dX8_goes_39 : decode cX8_goes 39 = .ok (.getfield 19, 3) := by decide +kernel
theorem dX8_goes_42 : decode cX8_goes 42 = .ok (.iconst 4, 1) := by decide +kernel
theorem dX8_goes_43 : decode cX8_goes 43 = .ok (.iaload, 1) := by decide +kernel
theorem dX8_goes_44 : decode cX8_goes 44 = .ok (.istore_n 3, 1) := by decide +kernel
theorem dX8_goes_45 : decode cX8_goes 45 = .ok (.iload_n 3, 1) := by decide +kernel
theorem dX8_goes_46 : decode cX8_goes 46 = .ok (.iconst (-1), 1) := by decide +kernel
theorem dX8_goes_47 : decode cX8_goes 47 = .ok (.if_icmp .eq 127, 3) := by decide +kernel
theorem dX8_goes_50 : decode cX8_goes 50 = .ok (.iload_n 3, 1) := by decide +kernel
theorem dX8_goes_51 : decode cX8_goes 51 = .ok (.ifCond .eq 8, 3) := by decide +kernel
theorem dX8_goes_54 : decode cX8_goes 54 = .ok (.iload_n 3, 1) := by decide +kernel
theorem dX8_goes_55 : decode cX8_goes 55 = .ok (.iconst 2, 1) := by decide +kernel
theorem dX8_goes_56 : decode cX8_goes 56 = .ok (.if_icmp .ne 13, 3) := by decide +kernel
theorem dX8_goes_59 : decode cX8_goes 59 = .ok (.aload_n 0, 1) := by decide +kernel
theorem dX8_goes_60 : decode cX8_goes 60 = .ok (.aload_n 0, 1) := by decide +kernel
theorem dX8_goes_61 : decode cX8_goes 61 = .ok (.getfield 19, 3) := by decide +kernel
theorem dX8_goes_64 : decode cX8_goes 64 = .ok (.iconst 3, 1) := by decide +kernel
theorem dX8_goes_65 : decode cX8_goes 65 = .ok (.iaload, 1) := by decide +kernel
theorem dX8_goes_66 : decode cX8_goes 66 = .ok (.invokevirtual 124, 3) := by decide +kernel
theorem dX8_goes_69 : decode cX8_goes 69 = .ok (.iload_n 3, 1) := by decide +kernel
theorem dX8_goes_70 : decode cX8_goes 70 = .ok (.iconst 2, 1) := by decide +kernel
theorem dX8_goes_71 : decode cX8_goes 71 = .ok (.if_icmp .ne 13, 3) := by decide +kernel
theorem dX8_goes_74 : decode cX8_goes 74 = .ok (.aload_n 0, 1) := by decide +kernel
theorem dX8_goes_75 : decode cX8_goes 75 = .ok (.aload_n 0, 1) := by decide +kernel
theorem dX8_goes_76 : decode cX8_goes 76 = .ok (.getfield 19, 3) := by decide +kernel
theorem dX8_goes_79 : decode cX8_goes 79 = .ok (.iconst 3, 1) := by decide +kernel
theorem dX8_goes_80 : decode cX8_goes 80 = .ok (.iaload, 1) := by decide +kernel
theorem dX8_goes_81 : decode cX8_goes 81 = .ok (.invokevirtual 124, 3) := by decide +kernel
theorem dX8_goes_84 : decode cX8_goes 84 = .ok (.iload_n 3, 1) := by decide +kernel
theorem dX8_goes_85 : decode cX8_goes 85 = .ok (.iconst 1, 1) := by decide +kernel
theorem dX8_goes_86 : decode cX8_goes 86 = .ok (.if_icmp .ne 17, 3) := by decide +kernel
theorem dX8_goes_89 : decode cX8_goes 89 = .ok (.aload_n 0, 1) := by decide +kernel
theorem dX8_goes_90 : decode cX8_goes 90 = .ok (.aload_n 0, 1) := by decide +kernel
theorem dX8_goes_91 : decode cX8_goes 91 = .ok (.getfield 19, 3) := by decide +kernel
theorem dX8_goes_94 : decode cX8_goes 94 = .ok (.iconst 3, 1) := by decide +kernel
theorem dX8_goes_95 : decode cX8_goes 95 = .ok (.iaload, 1) := by decide +kernel
theorem dX8_goes_96 : decode cX8_goes 96 = .ok (.iconst 2, 1) := by decide +kernel
theorem dX8_goes_97 : decode cX8_goes 97 = .ok (.iadd, 1) := by decide +kernel
theorem dX8_goes_98 : decode cX8_goes 98 = .ok (.iconst 4, 1) := by decide +kernel
theorem dX8_goes_99 : decode cX8_goes 99 = .ok (.irem, 1) := by decide +kernel
theorem dX8_goes_100 : decode cX8_goes 100 = .ok (.invokevirtual 124, 3) := by decide +kernel
theorem dX8_goes_103 : decode cX8_goes 103 = .ok (.iload_n 3, 1) := by decide +kernel
theorem dX8_goes_104 : decode cX8_goes 104 = .ok (.iconst 3, 1) := by decide +kernel
theorem dX8_goes_105 : decode cX8_goes 105 = .ok (.if_icmp .ne 19, 3) := by decide +kernel
theorem dX8_goes_108 : decode cX8_goes 108 = .ok (.aload_n 0, 1) := by decide +kernel
theorem dX8_goes_109 : decode cX8_goes 109 = .ok (.getfield 19, 3) := by decide +kernel
theorem dX8_goes_112 : decode cX8_goes 112 = .ok (.iconst 3, 1) := by decide +kernel
theorem dX8_goes_113 : decode cX8_goes 113 = .ok (.aload_n 0, 1) := by decide +kernel
theorem dX8_goes_114 : decode cX8_goes 114 = .ok (.getfield 19, 3) := by decide +kernel
theorem dX8_goes_117 : decode cX8_goes 117 = .ok (.iconst 3, 1) := by decide +kernel
theorem dX8_goes_118 : decode cX8_goes 118 = .ok (.iaload, 1) := by decide +kernel
theorem dX8_goes_119 : decode cX8_goes 119 = .ok (.iconst 1, 1) := by decide +kernel
theorem dX8_goes_120 : decode cX8_goes 120 = .ok (.iadd, 1) := by decide +kernel
theorem dX8_goes_121 : decode cX8_goes 121 = .ok (.iconst 4, 1) := by decide +kernel
theorem dX8_goes_122 : decode cX8_goes 122 = .ok (.irem, 1) := by decide +kernel
theorem dX8_goes_123 : decode cX8_goes 123 = .ok (.iastore, 1) := by decide +kernel
theorem dX8_goes_124 : decode cX8_goes 124 = .ok (.iload_n 3, 1) := by decide +kernel
theorem dX8_goes_125 : decode cX8_goes 125 = .ok (.iconst 4, 1) := by decide +kernel
theorem dX8_goes_126 : decode cX8_goes 126 = .ok (.if_icmp .ne 18, 3) := by decide +kernel
theorem dX8_goes_129 : decode cX8_goes 129 = .ok (.aload_n 0, 1) := by decide +kernel
theorem dX8_goes_130 : decode cX8_goes 130 = .ok (.getfield 19, 3) := by decide +kernel
theorem dX8_goes_133 : decode cX8_goes 133 = .ok (.bipush 24, 2) := by decide +kernel
theorem dX8_goes_135 : decode cX8_goes 135 = .ok (.iload_n 1, 1) := by decide +kernel
theorem dX8_goes_136 : decode cX8_goes 136 = .ok (.iadd, 1) := by decide +kernel
theorem dX8_goes_137 : decode cX8_goes 137 = .ok (.dup2, 1) := by decide +kernel
theorem dX8_goes_138 : decode cX8_goes 138 = .ok (.iaload, 1) := by decide +kernel
theorem dX8_goes_139 : decode cX8_goes 139 = .ok (.iconst 1, 1) := by decide +kernel
theorem dX8_goes_140 : decode cX8_goes 140 = .ok (.iadd, 1) := by decide +kernel
theorem dX8_goes_141 : decode cX8_goes 141 = .ok (.iastore, 1) := by decide +kernel
theorem dX8_goes_142 : decode cX8_goes 142 = .ok (.iload_n 1, 1) := by decide +kernel
theorem dX8_goes_143 : decode cX8_goes 143 = .ok (.istore_n 2, 1) := by decide +kernel
theorem dX8_goes_144 : decode cX8_goes 144 = .ok (.aload_n 0, 1) := by decide +kernel
theorem dX8_goes_145 : decode cX8_goes 145 = .ok (.getfield 19, 3) := by decide +kernel
theorem dX8_goes_148 : decode cX8_goes 148 = .ok (.iconst 5, 1) := by decide +kernel
theorem dX8_goes_149 : decode cX8_goes 149 = .ok (.dup2, 1) := by decide +kernel
theorem dX8_goes_150 : decode cX8_goes 150 = .ok (.iaload, 1) := by decide +kernel
theorem dX8_goes_151 : decode cX8_goes 151 = .ok (.iconst 1, 1) := by decide +kernel
theorem dX8_goes_152 : decode cX8_goes 152 = .ok (.isub, 1) := by decide +kernel
theorem dX8_goes_153 : decode cX8_goes 153 = .ok (.iastore, 1) := by decide +kernel
theorem dX8_goes_154 : decode cX8_goes 154 = .ok (.aload_n 0, 1) := by decide +kernel
theorem dX8_goes_155 : decode cX8_goes 155 = .ok (.getfield 19, 3) := by decide +kernel
theorem dX8_goes_158 : decode cX8_goes 158 = .ok (.iconst 4, 1) := by decide +kernel
theorem dX8_goes_159 : decode cX8_goes 159 = .ok (.aload_n 0, 1) := by decide +kernel
theorem dX8_goes_160 : decode cX8_goes 160 = .ok (.getfield 19, 3) := by decide +kernel
theorem dX8_goes_163 : decode cX8_goes 163 = .ok (.iconst 5, 1) := by decide +kernel
theorem dX8_goes_164 : decode cX8_goes 164 = .ok (.iaload, 1) := by decide +kernel
theorem dX8_goes_165 : decode cX8_goes 165 = .ok (.ifCond .ne 7, 3) := by decide +kernel
theorem dX8_goes_168 : decode cX8_goes 168 = .ok (.iconst (-1), 1) := by decide +kernel
theorem dX8_goes_169 : decode cX8_goes 169 = .ok (.goto 4, 3) := by decide +kernel
theorem dX8_goes_172 : decode cX8_goes 172 = .ok (.iload_n 3, 1) := by decide +kernel
theorem dX8_goes_173 : decode cX8_goes 173 = .ok (.iastore, 1) := by decide +kernel
theorem dX8_goes_174 : decode cX8_goes 174 = .ok (.aload_n 0, 1) := by decide +kernel
theorem dX8_goes_175 : decode cX8_goes 175 = .ok (.getfield 19, 3) := by decide +kernel
theorem dX8_goes_178 : decode cX8_goes 178 = .ok (.iconst 1, 1) := by decide +kernel
theorem dX8_goes_179 : decode cX8_goes 179 = .ok (.dup2, 1) := by decide +kernel
theorem dX8_goes_180 : decode cX8_goes 180 = .ok (.iaload, 1) := by decide +kernel
theorem dX8_goes_181 : decode cX8_goes 181 = .ok (.iconst 1, 1) := by decide +kernel
theorem dX8_goes_182 : decode cX8_goes 182 = .ok (.iadd, 1) := by decide +kernel
theorem dX8_goes_183 : decode cX8_goes 183 = .ok (.iastore, 1) := by decide +kernel
theorem dX8_goes_184 : decode cX8_goes 184 = .ok (.aload_n 0, 1) := by decide +kernel
theorem dX8_goes_185 : decode cX8_goes 185 = .ok (.getfield 19, 3) := by decide +kernel
theorem dX8_goes_188 : decode cX8_goes 188 = .ok (.iconst 1, 1) := by decide +kernel
theorem dX8_goes_189 : decode cX8_goes 189 = .ok (.iaload, 1) := by decide +kernel
theorem dX8_goes_190 : decode cX8_goes 190 = .ok (.aload_n 0, 1) := by decide +kernel
theorem dX8_goes_191 : decode cX8_goes 191 = .ok (.getfield 13, 3) := by decide +kernel
theorem dX8_goes_194 : decode cX8_goes 194 = .ok (.iconst 2, 1) := by decide +kernel
theorem dX8_goes_195 : decode cX8_goes 195 = .ok (.iaload, 1) := by decide +kernel
theorem dX8_goes_196 : decode cX8_goes 196 = .ok (.if_icmp .ne 20, 3) := by decide +kernel
theorem dX8_goes_199 : decode cX8_goes 199 = .ok (.aload_n 0, 1) := by decide +kernel
theorem dX8_goes_200 : decode cX8_goes 200 = .ok (.getfield 19, 3) := by decide +kernel
theorem dX8_goes_203 : decode cX8_goes 203 = .ok (.iconst 1, 1) := by decide +kernel
theorem dX8_goes_204 : decode cX8_goes 204 = .ok (.iconst 0, 1) := by decide +kernel
theorem dX8_goes_205 : decode cX8_goes 205 = .ok (.iastore, 1) := by decide +kernel
theorem dX8_goes_206 : decode cX8_goes 206 = .ok (.aload_n 0, 1) := by decide +kernel
theorem dX8_goes_207 : decode cX8_goes 207 = .ok (.getfield 19, 3) := by decide +kernel
theorem dX8_goes_210 : decode cX8_goes 210 = .ok (.iconst 0, 1) := by decide +kernel
theorem dX8_goes_211 : decode cX8_goes 211 = .ok (.dup2, 1) := by decide +kernel
theorem dX8_goes_212 : decode cX8_goes 212 = .ok (.iaload, 1) := by decide +kernel
theorem dX8_goes_213 : decode cX8_goes 213 = .ok (.iconst 1, 1) := by decide +kernel
theorem dX8_goes_214 : decode cX8_goes 214 = .ok (.iadd, 1) := by decide +kernel
theorem dX8_goes_215 : decode cX8_goes 215 = .ok (.iastore, 1) := by decide +kernel
theorem dX8_goes_216 : decode cX8_goes 216 = .ok (.iload_n 2, 1) := by decide +kernel
theorem dX8_goes_217 : decode cX8_goes 217 = .ok (.ireturn, 1) := by decide +kernel
theorem dX8_keeps_0 : decode cX8_keeps 0 = .ok (.aload_n 0, 1) := by decide +kernel
theorem dX8_keeps_1 : decode cX8_keeps 1 = .ok (.getfield 103, 3) := by decide +kernel
theorem dX8_keeps_4 : decode cX8_keeps 4 = .ok (.bipush 8, 2) := by decide +kernel
theorem dX8_keeps_6 : decode cX8_keeps 6 = .ok (.if_icmp .ne 43, 3) := by decide +kernel
theorem dX8_keeps_9 : decode cX8_keeps 9 = .ok (.iconst 0, 1) := by decide +kernel
theorem dX8_keeps_10 : decode cX8_keeps 10 = .ok (.istore_n 1, 1) := by decide +kernel
theorem dX8_keeps_11 : decode cX8_keeps 11 = .ok (.iload_n 1, 1) := by decide +kernel
theorem dX8_keeps_12 : decode cX8_keeps 12 = .ok (.sipush 462, 3) := by decide +kernel
theorem dX8_keeps_15 : decode cX8_keeps 15 = .ok (.if_icmp .ge 24, 3) := by decide +kernel
theorem dX8_keeps_18 : decode cX8_keeps 18 = .ok (.aload_n 0, 1) := by decide +kernel
theorem dX8_keeps_19 : decode cX8_keeps 19 = .ok (.getfield 22, 3) := by decide +kernel
theorem dX8_keeps_22 : decode cX8_keeps 22 = .ok (.iload_n 1, 1) := by decide +kernel
theorem dX8_keeps_23 : decode cX8_keeps 23 = .ok (.aload_n 0, 1) := by decide +kernel
theorem dX8_keeps_24 : decode cX8_keeps 24 = .ok (.getfield 22, 3) := by decide +kernel
theorem dX8_keeps_27 : decode cX8_keeps 27 = .ok (.iload_n 1, 1) := by decide +kernel
theorem dX8_keeps_28 : decode cX8_keeps 28 = .ok (.bipush 66, 2) := by decide +kernel
theorem dX8_keeps_30 : decode cX8_keeps 30 = .ok (.iadd, 1) := by decide +kernel
theorem dX8_keeps_31 : decode cX8_keeps 31 = .ok (.iaload, 1) := by decide +kernel
theorem dX8_keeps_32 : decode cX8_keeps 32 = .ok (.iastore, 1) := by decide +kernel
theorem dX8_keeps_33 : decode cX8_keeps 33 = .ok (.iinc 1 1, 3) := by decide +kernel
theorem dX8_keeps_36 : decode cX8_keeps 36 = .ok (.goto (-25), 3) := by decide +kernel
theorem dX8_keeps_39 : decode cX8_keeps 39 = .ok (.aload_n 0, 1) := by decide +kernel
theorem dX8_keeps_40 : decode cX8_keeps 40 = .ok (.dup, 1) := by decide +kernel
theorem dX8_keeps_41 : decode cX8_keeps 41 = .ok (.getfield 103, 3) := by decide +kernel
theorem dX8_keeps_44 : decode cX8_keeps 44 = .ok (.iconst 1, 1) := by decide +kernel
theorem dX8_keeps_45 : decode cX8_keeps 45 = .ok (.isub, 1) := by decide +kernel
theorem dX8_keeps_46 : decode cX8_keeps 46 = .ok (.putfield 103, 3) := by decide +kernel
theorem dX8_keeps_49 : decode cX8_keeps 49 = .ok (.iconst 0, 1) := by decide +kernel
theorem dX8_keeps_50 : decode cX8_keeps 50 = .ok (.istore_n 1, 1) := by decide +kernel
theorem dX8_keeps_51 : decode cX8_keeps 51 = .ok (.iload_n 1, 1) := by decide +kernel
theorem dX8_keeps_52 : decode cX8_keeps 52 = .ok (.bipush 66, 2) := by decide +kernel
theorem dX8_keeps_54 : decode cX8_keeps 54 = .ok (.if_icmp .ge 29, 3) := by decide +kernel
theorem dX8_keeps_57 : decode cX8_keeps 57 = .ok (.aload_n 0, 1) := by decide +kernel
theorem dX8_keeps_58 : decode cX8_keeps 58 = .ok (.getfield 22, 3) := by decide +kernel
theorem dX8_keeps_61 : decode cX8_keeps 61 = .ok (.bipush 66, 2) := by decide +kernel
theorem dX8_keeps_63 : decode cX8_keeps 63 = .ok (.aload_n 0, 1) := by decide +kernel
theorem dX8_keeps_64 : decode cX8_keeps 64 = .ok (.getfield 103, 3) := by decide +kernel
theorem dX8_keeps_67 : decode cX8_keeps 67 = .ok (.imul, 1) := by decide +kernel
theorem dX8_keeps_68 : decode cX8_keeps 68 = .ok (.iload_n 1, 1) := by decide +kernel
theorem dX8_keeps_69 : decode cX8_keeps 69 = .ok (.iadd, 1) := by decide +kernel
theorem dX8_keeps_70 : decode cX8_keeps 70 = .ok (.aload_n 0, 1) := by decide +kernel
theorem dX8_keeps_71 : decode cX8_keeps 71 = .ok (.getfield 19, 3) := by decide +kernel
theorem dX8_keeps_74 : decode cX8_keeps 74 = .ok (.iload_n 1, 1) := by decide +kernel
theorem dX8_keeps_75 : decode cX8_keeps 75 = .ok (.iaload, 1) := by decide +kernel
theorem dX8_keeps_76 : decode cX8_keeps 76 = .ok (.iastore, 1) := by decide +kernel
theorem dX8_keeps_77 : decode cX8_keeps 77 = .ok (.iinc 1 1, 3) := by decide +kernel
theorem dX8_keeps_80 : decode cX8_keeps 80 = .ok (.goto (-29), 3) := by decide +kernel
theorem dX8_keeps_83 : decode cX8_keeps 83 = .ok (.aload_n 0, 1) := by decide +kernel
theorem dX8_keeps_84 : decode cX8_keeps 84 = .ok (.dup, 1) := by decide +kernel
theorem dX8_keeps_85 : decode cX8_keeps 85 = .ok (.getfield 103, 3) := by decide +kernel
theorem dX8_keeps_88 : decode cX8_keeps 88 = .ok (.iconst 1, 1) := by decide +kernel
theorem dX8_keeps_89 : decode cX8_keeps 89 = .ok (.iadd, 1) := by decide +kernel
theorem dX8_keeps_90 : decode cX8_keeps 90 = .ok (.putfield 103, 3) := by decide +kernel
theorem dX8_keeps_93 : decode cX8_keeps 93 = .ok (.return_, 1) := by decide +kernel
theorem dX8_pass_0 : decode cX8_pass 0 = .ok (.iload_n 1, 1) := by decide +kernel
theorem dX8_pass_1 : decode cX8_pass 1 = .ok (.iconst 1, 1) := by decide +kernel
theorem dX8_pass_2 : decode cX8_pass 2 = .ok (.bipush 60, 2) := by decide +kernel
theorem dX8_pass_4 : decode cX8_pass 4 = .ok (.invokestatic 45, 3) := by decide +kernel
theorem dX8_pass_7 : decode cX8_pass 7 = .ok (.ifCond .ne 6, 3) := by decide +kernel
theorem dX8_pass_10 : decode cX8_pass 10 = .ok (.bipush (-3), 2) := by decide +kernel
theorem dX8_pass_12 : decode cX8_pass 12 = .ok (.ireturn, 1) := by decide +kernel
theorem dX8_pass_13 : decode cX8_pass 13 = .ok (.aload_n 0, 1) := by decide +kernel
theorem dX8_pass_14 : decode cX8_pass 14 = .ok (.getfield 19, 3) := by decide +kernel
theorem dX8_pass_17 : decode cX8_pass 17 = .ok (.iconst 0, 1) := by decide +kernel
theorem dX8_pass_18 : decode cX8_pass 18 = .ok (.iaload, 1) := by decide +kernel
theorem dX8_pass_19 : decode cX8_pass 19 = .ok (.sipush 999, 3) := by decide +kernel
theorem dX8_pass_22 : decode cX8_pass 22 = .ok (.if_icmp .le 6, 3) := by decide +kernel
theorem dX8_pass_25 : decode cX8_pass 25 = .ok (.bipush (-5), 2) := by decide +kernel
theorem dX8_pass_27 : decode cX8_pass 27 = .ok (.ireturn, 1) := by decide +kernel
theorem dX8_pass_28 : decode cX8_pass 28 = .ok (.aload_n 0, 1) := by decide +kernel
theorem dX8_pass_29 : decode cX8_pass 29 = .ok (.invokevirtual 127, 3) := by decide +kernel
theorem dX8_pass_32 : decode cX8_pass 32 = .ok (.iconst 0, 1) := by decide +kernel
theorem dX8_pass_33 : decode cX8_pass 33 = .ok (.istore_n 2, 1) := by decide +kernel
theorem dX8_pass_34 : decode cX8_pass 34 = .ok (.iload_n 2, 1) := by decide +kernel
theorem dX8_pass_35 : decode cX8_pass 35 = .ok (.iload_n 1, 1) := by decide +kernel
theorem dX8_pass_36 : decode cX8_pass 36 = .ok (.if_icmp .ge 14, 3) := by decide +kernel
theorem dX8_pass_39 : decode cX8_pass 39 = .ok (.aload_n 0, 1) := by decide +kernel
theorem dX8_pass_40 : decode cX8_pass 40 = .ok (.invokevirtual 130, 3) := by decide +kernel
theorem dX8_pass_43 : decode cX8_pass 43 = .ok (.pop, 1) := by decide +kernel
theorem dX8_pass_44 : decode cX8_pass 44 = .ok (.iinc 2 1, 3) := by decide +kernel
theorem dX8_pass_47 : decode cX8_pass 47 = .ok (.goto (-13), 3) := by decide +kernel
theorem dX8_pass_50 : decode cX8_pass 50 = .ok (.aload_n 0, 1) := by decide +kernel
theorem dX8_pass_51 : decode cX8_pass 51 = .ok (.getfield 19, 3) := by decide +kernel
theorem dX8_pass_54 : decode cX8_pass 54 = .ok (.iconst 2, 1) := by decide +kernel
theorem dX8_pass_55 : decode cX8_pass 55 = .ok (.iaload, 1) := by decide +kernel
theorem dX8_pass_56 : decode cX8_pass 56 = .ok (.ireturn, 1) := by decide +kernel
theorem dX8_orders_0 : decode cX8_orders 0 = .ok (.aload_n 0, 1) := by decide +kernel
theorem dX8_orders_1 : decode cX8_orders 1 = .ok (.getfield 19, 3) := by decide +kernel
theorem dX8_orders_4 : decode cX8_orders 4 = .ok (.aload_n 0, 1) := by decide +kernel
theorem dX8_orders_5 : decode cX8_orders 5 = .ok (.iload_n 1, 1) := by decide +kernel
theorem dX8_orders_6 : decode cX8_orders 6 = .ok (.aload_n 0, 1) := by decide +kernel
theorem dX8_orders_7 : decode cX8_orders 7 = .ok (.getfield 19, 3) := by decide +kernel
theorem dX8_orders_10 : decode cX8_orders 10 = .ok (.bipush 6, 2) := by decide +kernel
theorem dX8_orders_12 : decode cX8_orders 12 = .ok (.iload_n 1, 1) := by decide +kernel
theorem dX8_orders_13 : decode cX8_orders 13 = .ok (.iadd, 1) := by decide +kernel
theorem dX8_orders_14 : decode cX8_orders 14 = .ok (.iaload, 1) := by decide +kernel
theorem dX8_orders_15 : decode cX8_orders 15 = .ok (.invokevirtual 116, 3) := by decide +kernel
theorem dX8_orders_18 : decode cX8_orders 18 = .ok (.iload_n 2, 1) := by decide +kernel
theorem dX8_orders_19 : decode cX8_orders 19 = .ok (.iastore, 1) := by decide +kernel
theorem dX8_orders_20 : decode cX8_orders 20 = .ok (.aload_n 0, 1) := by decide +kernel
theorem dX8_orders_21 : decode cX8_orders 21 = .ok (.getfield 19, 3) := by decide +kernel
theorem dX8_orders_24 : decode cX8_orders 24 = .ok (.bipush 6, 2) := by decide +kernel
theorem dX8_orders_26 : decode cX8_orders 26 = .ok (.iload_n 1, 1) := by decide +kernel
theorem dX8_orders_27 : decode cX8_orders 27 = .ok (.iadd, 1) := by decide +kernel
theorem dX8_orders_28 : decode cX8_orders 28 = .ok (.dup2, 1) := by decide +kernel
theorem dX8_orders_29 : decode cX8_orders 29 = .ok (.iaload, 1) := by decide +kernel
theorem dX8_orders_30 : decode cX8_orders 30 = .ok (.iconst 1, 1) := by decide +kernel
theorem dX8_orders_31 : decode cX8_orders 31 = .ok (.iadd, 1) := by decide +kernel
theorem dX8_orders_32 : decode cX8_orders 32 = .ok (.iastore, 1) := by decide +kernel
theorem dX8_orders_33 : decode cX8_orders 33 = .ok (.return_, 1) := by decide +kernel
theorem dX8_order_0 : decode cX8_order 0 = .ok (.iload_n 1, 1) := by decide +kernel
theorem dX8_order_1 : decode cX8_order 1 = .ok (.iconst 0, 1) := by decide +kernel
theorem dX8_order_2 : decode cX8_order 2 = .ok (.iconst 1, 1) := by decide +kernel
theorem dX8_order_3 : decode cX8_order 3 = .ok (.invokestatic 45, 3) := by decide +kernel
theorem dX8_order_6 : decode cX8_order 6 = .ok (.ifCond .ne 6, 3) := by decide +kernel
theorem dX8_order_9 : decode cX8_order 9 = .ok (.bipush (-2), 2) := by decide +kernel
theorem dX8_order_11 : decode cX8_order 11 = .ok (.ireturn, 1) := by decide +kernel
theorem dX8_order_12 : decode cX8_order 12 = .ok (.iload_n 2, 1) := by decide +kernel
theorem dX8_order_13 : decode cX8_order 13 = .ok (.iconst 0, 1) := by decide +kernel
theorem dX8_order_14 : decode cX8_order 14 = .ok (.iconst 4, 1) := by decide +kernel
theorem dX8_order_15 : decode cX8_order 15 = .ok (.invokestatic 45, 3) := by decide +kernel
theorem dX8_order_18 : decode cX8_order 18 = .ok (.ifCond .eq 13, 3) := by decide +kernel
theorem dX8_order_21 : decode cX8_order 21 = .ok (.iload_n 3, 1) := by decide +kernel
theorem dX8_order_22 : decode cX8_order 22 = .ok (.iconst 1, 1) := by decide +kernel
theorem dX8_order_23 : decode cX8_order 23 = .ok (.bipush 9, 2) := by decide +kernel
theorem dX8_order_25 : decode cX8_order 25 = .ok (.invokestatic 45, 3) := by decide +kernel
theorem dX8_order_28 : decode cX8_order 28 = .ok (.ifCond .ne 6, 3) := by decide +kernel
theorem dX8_order_31 : decode cX8_order 31 = .ok (.bipush (-3), 2) := by decide +kernel
theorem dX8_order_33 : decode cX8_order 33 = .ok (.ireturn, 1) := by decide +kernel
theorem dX8_order_34 : decode cX8_order 34 = .ok (.aload_n 0, 1) := by decide +kernel
theorem dX8_order_35 : decode cX8_order 35 = .ok (.getfield 19, 3) := by decide +kernel
theorem dX8_order_38 : decode cX8_order 38 = .ok (.bipush 6, 2) := by decide +kernel
theorem dX8_order_40 : decode cX8_order 40 = .ok (.iload_n 1, 1) := by decide +kernel
theorem dX8_order_41 : decode cX8_order 41 = .ok (.iadd, 1) := by decide +kernel
theorem dX8_order_42 : decode cX8_order 42 = .ok (.iaload, 1) := by decide +kernel
theorem dX8_order_43 : decode cX8_order 43 = .ok (.bipush 8, 2) := by decide +kernel
theorem dX8_order_45 : decode cX8_order 45 = .ok (.if_icmp .ne 6, 3) := by decide +kernel
theorem dX8_order_48 : decode cX8_order 48 = .ok (.bipush (-5), 2) := by decide +kernel
theorem dX8_order_50 : decode cX8_order 50 = .ok (.ireturn, 1) := by decide +kernel
theorem dX8_order_51 : decode cX8_order 51 = .ok (.aload_n 0, 1) := by decide +kernel
theorem dX8_order_52 : decode cX8_order 52 = .ok (.invokevirtual 127, 3) := by decide +kernel
theorem dX8_order_55 : decode cX8_order 55 = .ok (.aload_n 0, 1) := by decide +kernel
theorem dX8_order_56 : decode cX8_order 56 = .ok (.iload_n 1, 1) := by decide +kernel
theorem dX8_order_57 : decode cX8_order 57 = .ok (.bipush 10, 2) := by decide +kernel
theorem dX8_order_59 : decode cX8_order 59 = .ok (.iload_n 2, 1) := by decide +kernel
theorem dX8_order_60 : decode cX8_order 60 = .ok (.imul, 1) := by decide +kernel
theorem dX8_order_61 : decode cX8_order 61 = .ok (.iload_n 3, 1) := by decide +kernel
theorem dX8_order_62 : decode cX8_order 62 = .ok (.iadd, 1) := by decide +kernel
theorem dX8_order_63 : decode cX8_order 63 = .ok (.invokevirtual 133, 3) := by decide +kernel
theorem dX8_order_66 : decode cX8_order 66 = .ok (.aload_n 0, 1) := by decide +kernel
theorem dX8_order_67 : decode cX8_order 67 = .ok (.getfield 19, 3) := by decide +kernel
theorem dX8_order_70 : decode cX8_order 70 = .ok (.bipush 6, 2) := by decide +kernel
theorem dX8_order_72 : decode cX8_order 72 = .ok (.iload_n 1, 1) := by decide +kernel
theorem dX8_order_73 : decode cX8_order 73 = .ok (.iadd, 1) := by decide +kernel
theorem dX8_order_74 : decode cX8_order 74 = .ok (.iaload, 1) := by decide +kernel
theorem dX8_order_75 : decode cX8_order 75 = .ok (.ireturn, 1) := by decide +kernel
theorem dX8_winds_0 : decode cX8_winds 0 = .ok (.aload_n 0, 1) := by decide +kernel
theorem dX8_winds_1 : decode cX8_winds 1 = .ok (.getfield 19, 3) := by decide +kernel
theorem dX8_winds_4 : decode cX8_winds 4 = .ok (.iconst 1, 1) := by decide +kernel
theorem dX8_winds_5 : decode cX8_winds 5 = .ok (.dup2, 1) := by decide +kernel
theorem dX8_winds_6 : decode cX8_winds 6 = .ok (.iaload, 1) := by decide +kernel
theorem dX8_winds_7 : decode cX8_winds 7 = .ok (.iload_n 1, 1) := by decide +kernel
theorem dX8_winds_8 : decode cX8_winds 8 = .ok (.iadd, 1) := by decide +kernel
theorem dX8_winds_9 : decode cX8_winds 9 = .ok (.iastore, 1) := by decide +kernel
theorem dX8_winds_10 : decode cX8_winds 10 = .ok (.aload_n 0, 1) := by decide +kernel
theorem dX8_winds_11 : decode cX8_winds 11 = .ok (.getfield 19, 3) := by decide +kernel
theorem dX8_winds_14 : decode cX8_winds 14 = .ok (.iconst 1, 1) := by decide +kernel
theorem dX8_winds_15 : decode cX8_winds 15 = .ok (.iaload, 1) := by decide +kernel
theorem dX8_winds_16 : decode cX8_winds 16 = .ok (.aload_n 0, 1) := by decide +kernel
theorem dX8_winds_17 : decode cX8_winds 17 = .ok (.getfield 13, 3) := by decide +kernel
theorem dX8_winds_20 : decode cX8_winds 20 = .ok (.iconst 2, 1) := by decide +kernel
theorem dX8_winds_21 : decode cX8_winds 21 = .ok (.iaload, 1) := by decide +kernel
theorem dX8_winds_22 : decode cX8_winds 22 = .ok (.if_icmp .lt 20, 3) := by decide +kernel
theorem dX8_winds_25 : decode cX8_winds 25 = .ok (.aload_n 0, 1) := by decide +kernel
theorem dX8_winds_26 : decode cX8_winds 26 = .ok (.getfield 19, 3) := by decide +kernel
theorem dX8_winds_29 : decode cX8_winds 29 = .ok (.iconst 1, 1) := by decide +kernel
theorem dX8_winds_30 : decode cX8_winds 30 = .ok (.iconst 0, 1) := by decide +kernel
theorem dX8_winds_31 : decode cX8_winds 31 = .ok (.iastore, 1) := by decide +kernel
theorem dX8_winds_32 : decode cX8_winds 32 = .ok (.aload_n 0, 1) := by decide +kernel
theorem dX8_winds_33 : decode cX8_winds 33 = .ok (.getfield 19, 3) := by decide +kernel
theorem dX8_winds_36 : decode cX8_winds 36 = .ok (.iconst 0, 1) := by decide +kernel
theorem dX8_winds_37 : decode cX8_winds 37 = .ok (.dup2, 1) := by decide +kernel
theorem dX8_winds_38 : decode cX8_winds 38 = .ok (.iaload, 1) := by decide +kernel
theorem dX8_winds_39 : decode cX8_winds 39 = .ok (.iconst 1, 1) := by decide +kernel
theorem dX8_winds_40 : decode cX8_winds 40 = .ok (.iadd, 1) := by decide +kernel
theorem dX8_winds_41 : decode cX8_winds 41 = .ok (.iastore, 1) := by decide +kernel
theorem dX8_winds_42 : decode cX8_winds 42 = .ok (.return_, 1) := by decide +kernel
theorem dX8_wind_0 : decode cX8_wind 0 = .ok (.iload_n 1, 1) := by decide +kernel
theorem dX8_wind_1 : decode cX8_wind 1 = .ok (.iconst 0, 1) := by decide +kernel
theorem dX8_wind_2 : decode cX8_wind 2 = .ok (.bipush 8, 2) := by decide +kernel
theorem dX8_wind_4 : decode cX8_wind 4 = .ok (.invokestatic 45, 3) := by decide +kernel
theorem dX8_wind_7 : decode cX8_wind 7 = .ok (.ifCond .ne 6, 3) := by decide +kernel
theorem dX8_wind_10 : decode cX8_wind 10 = .ok (.bipush (-3), 2) := by decide +kernel
theorem dX8_wind_12 : decode cX8_wind 12 = .ok (.ireturn, 1) := by decide +kernel
theorem dX8_wind_13 : decode cX8_wind 13 = .ok (.aload_n 0, 1) := by decide +kernel
theorem dX8_wind_14 : decode cX8_wind 14 = .ok (.invokevirtual 127, 3) := by decide +kernel
theorem dX8_wind_17 : decode cX8_wind 17 = .ok (.aload_n 0, 1) := by decide +kernel
theorem dX8_wind_18 : decode cX8_wind 18 = .ok (.iload_n 1, 1) := by decide +kernel
theorem dX8_wind_19 : decode cX8_wind 19 = .ok (.invokevirtual 136, 3) := by decide +kernel
theorem dX8_wind_22 : decode cX8_wind 22 = .ok (.aload_n 0, 1) := by decide +kernel
theorem dX8_wind_23 : decode cX8_wind 23 = .ok (.getfield 19, 3) := by decide +kernel
theorem dX8_wind_26 : decode cX8_wind 26 = .ok (.iconst 0, 1) := by decide +kernel
theorem dX8_wind_27 : decode cX8_wind 27 = .ok (.iaload, 1) := by decide +kernel
theorem dX8_wind_28 : decode cX8_wind 28 = .ok (.ireturn, 1) := by decide +kernel
theorem dX8_undo_0 : decode cX8_undo 0 = .ok (.aload_n 0, 1) := by decide +kernel
theorem dX8_undo_1 : decode cX8_undo 1 = .ok (.getfield 103, 3) := by decide +kernel
theorem dX8_undo_4 : decode cX8_undo 4 = .ok (.ifCond .ne 6, 3) := by decide +kernel
theorem dX8_undo_7 : decode cX8_undo 7 = .ok (.bipush (-4), 2) := by decide +kernel
theorem dX8_undo_9 : decode cX8_undo 9 = .ok (.ireturn, 1) := by decide +kernel
theorem dX8_undo_10 : decode cX8_undo 10 = .ok (.aload_n 0, 1) := by decide +kernel
theorem dX8_undo_11 : decode cX8_undo 11 = .ok (.dup, 1) := by decide +kernel
theorem dX8_undo_12 : decode cX8_undo 12 = .ok (.getfield 103, 3) := by decide +kernel
theorem dX8_undo_15 : decode cX8_undo 15 = .ok (.iconst 1, 1) := by decide +kernel
theorem dX8_undo_16 : decode cX8_undo 16 = .ok (.isub, 1) := by decide +kernel
theorem dX8_undo_17 : decode cX8_undo 17 = .ok (.putfield 103, 3) := by decide +kernel
theorem dX8_undo_20 : decode cX8_undo 20 = .ok (.iconst 0, 1) := by decide +kernel
theorem dX8_undo_21 : decode cX8_undo 21 = .ok (.istore_n 1, 1) := by decide +kernel
theorem dX8_undo_22 : decode cX8_undo 22 = .ok (.iload_n 1, 1) := by decide +kernel
theorem dX8_undo_23 : decode cX8_undo 23 = .ok (.bipush 66, 2) := by decide +kernel
theorem dX8_undo_25 : decode cX8_undo 25 = .ok (.if_icmp .ge 29, 3) := by decide +kernel
theorem dX8_undo_28 : decode cX8_undo 28 = .ok (.aload_n 0, 1) := by decide +kernel
theorem dX8_undo_29 : decode cX8_undo 29 = .ok (.getfield 19, 3) := by decide +kernel
theorem dX8_undo_32 : decode cX8_undo 32 = .ok (.iload_n 1, 1) := by decide +kernel
theorem dX8_undo_33 : decode cX8_undo 33 = .ok (.aload_n 0, 1) := by decide +kernel
theorem dX8_undo_34 : decode cX8_undo 34 = .ok (.getfield 22, 3) := by decide +kernel
theorem dX8_undo_37 : decode cX8_undo 37 = .ok (.bipush 66, 2) := by decide +kernel
theorem dX8_undo_39 : decode cX8_undo 39 = .ok (.aload_n 0, 1) := by decide +kernel
theorem dX8_undo_40 : decode cX8_undo 40 = .ok (.getfield 103, 3) := by decide +kernel
theorem dX8_undo_43 : decode cX8_undo 43 = .ok (.imul, 1) := by decide +kernel
theorem dX8_undo_44 : decode cX8_undo 44 = .ok (.iload_n 1, 1) := by decide +kernel
theorem dX8_undo_45 : decode cX8_undo 45 = .ok (.iadd, 1) := by decide +kernel
theorem dX8_undo_46 : decode cX8_undo 46 = .ok (.iaload, 1) := by decide +kernel
theorem dX8_undo_47 : decode cX8_undo 47 = .ok (.iastore, 1) := by decide +kernel
theorem dX8_undo_48 : decode cX8_undo 48 = .ok (.iinc 1 1, 3) := by decide +kernel
theorem dX8_undo_51 : decode cX8_undo 51 = .ok (.goto (-29), 3) := by decide +kernel
theorem dX8_undo_54 : decode cX8_undo 54 = .ok (.aload_n 0, 1) := by decide +kernel
theorem dX8_undo_55 : decode cX8_undo 55 = .ok (.getfield 103, 3) := by decide +kernel
theorem dX8_undo_58 : decode cX8_undo 58 = .ok (.ireturn, 1) := by decide +kernel
theorem dX8_keep_0 : decode cX8_keep 0 = .ok (.iload_n 1, 1) := by decide +kernel
theorem dX8_keep_1 : decode cX8_keep 1 = .ok (.iconst 0, 1) := by decide +kernel
theorem dX8_keep_2 : decode cX8_keep 2 = .ok (.iconst 1, 1) := by decide +kernel
theorem dX8_keep_3 : decode cX8_keep 3 = .ok (.invokestatic 45, 3) := by decide +kernel
theorem dX8_keep_6 : decode cX8_keep 6 = .ok (.ifCond .ne 6, 3) := by decide +kernel
theorem dX8_keep_9 : decode cX8_keep 9 = .ok (.bipush (-2), 2) := by decide +kernel
theorem dX8_keep_11 : decode cX8_keep 11 = .ok (.ireturn, 1) := by decide +kernel
theorem dX8_keep_12 : decode cX8_keep 12 = .ok (.iconst 0, 1) := by decide +kernel
theorem dX8_keep_13 : decode cX8_keep 13 = .ok (.istore_n 2, 1) := by decide +kernel
theorem dX8_keep_14 : decode cX8_keep 14 = .ok (.iload_n 2, 1) := by decide +kernel
theorem dX8_keep_15 : decode cX8_keep 15 = .ok (.bipush 66, 2) := by decide +kernel
theorem dX8_keep_17 : decode cX8_keep 17 = .ok (.if_icmp .ge 26, 3) := by decide +kernel
theorem dX8_keep_20 : decode cX8_keep 20 = .ok (.aload_n 0, 1) := by decide +kernel
theorem dX8_keep_21 : decode cX8_keep 21 = .ok (.getfield 25, 3) := by decide +kernel
theorem dX8_keep_24 : decode cX8_keep 24 = .ok (.bipush 66, 2) := by decide +kernel
theorem dX8_keep_26 : decode cX8_keep 26 = .ok (.iload_n 1, 1) := by decide +kernel
theorem dX8_keep_27 : decode cX8_keep 27 = .ok (.imul, 1) := by decide +kernel
theorem dX8_keep_28 : decode cX8_keep 28 = .ok (.iload_n 2, 1) := by decide +kernel
theorem dX8_keep_29 : decode cX8_keep 29 = .ok (.iadd, 1) := by decide +kernel
theorem dX8_keep_30 : decode cX8_keep 30 = .ok (.aload_n 0, 1) := by decide +kernel
theorem dX8_keep_31 : decode cX8_keep 31 = .ok (.getfield 19, 3) := by decide +kernel
theorem dX8_keep_34 : decode cX8_keep 34 = .ok (.iload_n 2, 1) := by decide +kernel
theorem dX8_keep_35 : decode cX8_keep 35 = .ok (.iaload, 1) := by decide +kernel
theorem dX8_keep_36 : decode cX8_keep 36 = .ok (.iastore, 1) := by decide +kernel
theorem dX8_keep_37 : decode cX8_keep 37 = .ok (.iinc 2 1, 3) := by decide +kernel
theorem dX8_keep_40 : decode cX8_keep 40 = .ok (.goto (-26), 3) := by decide +kernel
theorem dX8_keep_43 : decode cX8_keep 43 = .ok (.aload_n 0, 1) := by decide +kernel
theorem dX8_keep_44 : decode cX8_keep 44 = .ok (.getfield 28, 3) := by decide +kernel
theorem dX8_keep_47 : decode cX8_keep 47 = .ok (.iload_n 1, 1) := by decide +kernel
theorem dX8_keep_48 : decode cX8_keep 48 = .ok (.iconst 1, 1) := by decide +kernel
theorem dX8_keep_49 : decode cX8_keep 49 = .ok (.bastore, 1) := by decide +kernel
theorem dX8_keep_50 : decode cX8_keep 50 = .ok (.aload_n 0, 1) := by decide +kernel
theorem dX8_keep_51 : decode cX8_keep 51 = .ok (.getfield 19, 3) := by decide +kernel
theorem dX8_keep_54 : decode cX8_keep 54 = .ok (.iconst 0, 1) := by decide +kernel
theorem dX8_keep_55 : decode cX8_keep 55 = .ok (.iaload, 1) := by decide +kernel
theorem dX8_keep_56 : decode cX8_keep 56 = .ok (.ireturn, 1) := by decide +kernel
theorem dX8_back_0 : decode cX8_back 0 = .ok (.iload_n 1, 1) := by decide +kernel
theorem dX8_back_1 : decode cX8_back 1 = .ok (.iconst 0, 1) := by decide +kernel
theorem dX8_back_2 : decode cX8_back 2 = .ok (.iconst 1, 1) := by decide +kernel
theorem dX8_back_3 : decode cX8_back 3 = .ok (.invokestatic 45, 3) := by decide +kernel
theorem dX8_back_6 : decode cX8_back 6 = .ok (.ifCond .ne 6, 3) := by decide +kernel
theorem dX8_back_9 : decode cX8_back 9 = .ok (.bipush (-2), 2) := by decide +kernel
theorem dX8_back_11 : decode cX8_back 11 = .ok (.ireturn, 1) := by decide +kernel
theorem dX8_back_12 : decode cX8_back 12 = .ok (.aload_n 0, 1) := by decide +kernel
theorem dX8_back_13 : decode cX8_back 13 = .ok (.getfield 28, 3) := by decide +kernel
theorem dX8_back_16 : decode cX8_back 16 = .ok (.iload_n 1, 1) := by decide +kernel
theorem dX8_back_17 : decode cX8_back 17 = .ok (.baload, 1) := by decide +kernel
theorem dX8_back_18 : decode cX8_back 18 = .ok (.ifCond .ne 6, 3) := by decide +kernel
theorem dX8_back_21 : decode cX8_back 21 = .ok (.bipush (-4), 2) := by decide +kernel
theorem dX8_back_23 : decode cX8_back 23 = .ok (.ireturn, 1) := by decide +kernel
theorem dX8_back_24 : decode cX8_back 24 = .ok (.iconst 0, 1) := by decide +kernel
theorem dX8_back_25 : decode cX8_back 25 = .ok (.istore_n 2, 1) := by decide +kernel
theorem dX8_back_26 : decode cX8_back 26 = .ok (.iload_n 2, 1) := by decide +kernel
theorem dX8_back_27 : decode cX8_back 27 = .ok (.bipush 66, 2) := by decide +kernel
theorem dX8_back_29 : decode cX8_back 29 = .ok (.if_icmp .ge 26, 3) := by decide +kernel
theorem dX8_back_32 : decode cX8_back 32 = .ok (.aload_n 0, 1) := by decide +kernel
theorem dX8_back_33 : decode cX8_back 33 = .ok (.getfield 19, 3) := by decide +kernel
theorem dX8_back_36 : decode cX8_back 36 = .ok (.iload_n 2, 1) := by decide +kernel
theorem dX8_back_37 : decode cX8_back 37 = .ok (.aload_n 0, 1) := by decide +kernel
theorem dX8_back_38 : decode cX8_back 38 = .ok (.getfield 25, 3) := by decide +kernel
theorem dX8_back_41 : decode cX8_back 41 = .ok (.bipush 66, 2) := by decide +kernel
theorem dX8_back_43 : decode cX8_back 43 = .ok (.iload_n 1, 1) := by decide +kernel
theorem dX8_back_44 : decode cX8_back 44 = .ok (.imul, 1) := by decide +kernel
theorem dX8_back_45 : decode cX8_back 45 = .ok (.iload_n 2, 1) := by decide +kernel
theorem dX8_back_46 : decode cX8_back 46 = .ok (.iadd, 1) := by decide +kernel
theorem dX8_back_47 : decode cX8_back 47 = .ok (.iaload, 1) := by decide +kernel
theorem dX8_back_48 : decode cX8_back 48 = .ok (.iastore, 1) := by decide +kernel
theorem dX8_back_49 : decode cX8_back 49 = .ok (.iinc 2 1, 3) := by decide +kernel
theorem dX8_back_52 : decode cX8_back 52 = .ok (.goto (-26), 3) := by decide +kernel
theorem dX8_back_55 : decode cX8_back 55 = .ok (.aload_n 0, 1) := by decide +kernel
theorem dX8_back_56 : decode cX8_back 56 = .ok (.iconst 0, 1) := by decide +kernel
theorem dX8_back_57 : decode cX8_back 57 = .ok (.putfield 103, 3) := by decide +kernel
theorem dX8_back_60 : decode cX8_back 60 = .ok (.aload_n 0, 1) := by decide +kernel
theorem dX8_back_61 : decode cX8_back 61 = .ok (.getfield 19, 3) := by decide +kernel
theorem dX8_back_64 : decode cX8_back 64 = .ok (.iconst 0, 1) := by decide +kernel
theorem dX8_back_65 : decode cX8_back 65 = .ok (.iaload, 1) := by decide +kernel
theorem dX8_back_66 : decode cX8_back 66 = .ok (.ireturn, 1) := by decide +kernel
theorem dX8_holds_0 : decode cX8_holds 0 = .ok (.iconst 0, 1) := by decide +kernel
theorem dX8_holds_1 : decode cX8_holds 1 = .ok (.istore_n 1, 1) := by decide +kernel
theorem dX8_holds_2 : decode cX8_holds 2 = .ok (.iload_n 1, 1) := by decide +kernel
theorem dX8_holds_3 : decode cX8_holds 3 = .ok (.bipush 66, 2) := by decide +kernel
theorem dX8_holds_5 : decode cX8_holds 5 = .ok (.if_icmp .ge 21, 3) := by decide +kernel
theorem dX8_holds_8 : decode cX8_holds 8 = .ok (.aload_n 0, 1) := by decide +kernel
theorem dX8_holds_9 : decode cX8_holds 9 = .ok (.getfield 35, 3) := by decide +kernel
theorem dX8_holds_12 : decode cX8_holds 12 = .ok (.iload_n 1, 1) := by decide +kernel
theorem dX8_holds_13 : decode cX8_holds 13 = .ok (.aload_n 0, 1) := by decide +kernel
theorem dX8_holds_14 : decode cX8_holds 14 = .ok (.getfield 19, 3) := by decide +kernel
theorem dX8_holds_17 : decode cX8_holds 17 = .ok (.iload_n 1, 1) := by decide +kernel
theorem dX8_holds_18 : decode cX8_holds 18 = .ok (.iaload, 1) := by decide +kernel
theorem dX8_holds_19 : decode cX8_holds 19 = .ok (.iastore, 1) := by decide +kernel
theorem dX8_holds_20 : decode cX8_holds 20 = .ok (.iinc 1 1, 3) := by decide +kernel
theorem dX8_holds_23 : decode cX8_holds 23 = .ok (.goto (-21), 3) := by decide +kernel
theorem dX8_holds_26 : decode cX8_holds 26 = .ok (.return_, 1) := by decide +kernel
theorem dX8_lets_0 : decode cX8_lets 0 = .ok (.iconst 0, 1) := by decide +kernel
theorem dX8_lets_1 : decode cX8_lets 1 = .ok (.istore_n 1, 1) := by decide +kernel
theorem dX8_lets_2 : decode cX8_lets 2 = .ok (.iload_n 1, 1) := by decide +kernel
theorem dX8_lets_3 : decode cX8_lets 3 = .ok (.bipush 66, 2) := by decide +kernel
theorem dX8_lets_5 : decode cX8_lets 5 = .ok (.if_icmp .ge 21, 3) := by decide +kernel
theorem dX8_lets_8 : decode cX8_lets 8 = .ok (.aload_n 0, 1) := by decide +kernel
theorem dX8_lets_9 : decode cX8_lets 9 = .ok (.getfield 19, 3) := by decide +kernel
theorem dX8_lets_12 : decode cX8_lets 12 = .ok (.iload_n 1, 1) := by decide +kernel
theorem dX8_lets_13 : decode cX8_lets 13 = .ok (.aload_n 0, 1) := by decide +kernel
theorem dX8_lets_14 : decode cX8_lets 14 = .ok (.getfield 35, 3) := by decide +kernel
theorem dX8_lets_17 : decode cX8_lets 17 = .ok (.iload_n 1, 1) := by decide +kernel
theorem dX8_lets_18 : decode cX8_lets 18 = .ok (.iaload, 1) := by decide +kernel
theorem dX8_lets_19 : decode cX8_lets 19 = .ok (.iastore, 1) := by decide +kernel
theorem dX8_lets_20 : decode cX8_lets 20 = .ok (.iinc 1 1, 3) := by decide +kernel
theorem dX8_lets_23 : decode cX8_lets 23 = .ok (.goto (-21), 3) := by decide +kernel
theorem dX8_lets_26 : decode cX8_lets 26 = .ok (.return_, 1) := by decide +kernel
theorem dX8_behind_0 : decode cX8_behind 0 = .ok (.iload_n 1, 1) := by decide +kernel
theorem dX8_behind_1 : decode cX8_behind 1 = .ok (.iconst 0, 1) := by decide +kernel
theorem dX8_behind_2 : decode cX8_behind 2 = .ok (.bipush 99, 2) := by decide +kernel
theorem dX8_behind_4 : decode cX8_behind 4 = .ok (.invokestatic 45, 3) := by decide +kernel
theorem dX8_behind_7 : decode cX8_behind 7 = .ok (.ifCond .eq 12, 3) := by decide +kernel
theorem dX8_behind_10 : decode cX8_behind 10 = .ok (.iload_n 2, 1) := by decide +kernel
theorem dX8_behind_11 : decode cX8_behind 11 = .ok (.iconst 0, 1) := by decide +kernel
theorem dX8_behind_12 : decode cX8_behind 12 = .ok (.iconst 4, 1) := by decide +kernel
theorem dX8_behind_13 : decode cX8_behind 13 = .ok (.invokestatic 45, 3) := by decide +kernel
theorem dX8_behind_16 : decode cX8_behind 16 = .ok (.ifCond .ne 6, 3) := by decide +kernel
theorem dX8_behind_19 : decode cX8_behind 19 = .ok (.bipush (-3), 2) := by decide +kernel
theorem dX8_behind_21 : decode cX8_behind 21 = .ok (.ireturn, 1) := by decide +kernel
theorem dX8_behind_22 : decode cX8_behind 22 = .ok (.aload_n 0, 1) := by decide +kernel
theorem dX8_behind_23 : decode cX8_behind 23 = .ok (.invokevirtual 139, 3) := by decide +kernel
theorem dX8_behind_26 : decode cX8_behind 26 = .ok (.iconst 0, 1) := by decide +kernel
theorem dX8_behind_27 : decode cX8_behind 27 = .ok (.istore_n 3, 1) := by decide +kernel
theorem dX8_behind_28 : decode cX8_behind 28 = .ok (.iload_n 3, 1) := by decide +kernel
theorem dX8_behind_29 : decode cX8_behind 29 = .ok (.iload_n 1, 1) := by decide +kernel
theorem dX8_behind_30 : decode cX8_behind 30 = .ok (.if_icmp .ge 14, 3) := by decide +kernel
theorem dX8_behind_33 : decode cX8_behind 33 = .ok (.aload_n 0, 1) := by decide +kernel
theorem dX8_behind_34 : decode cX8_behind 34 = .ok (.invokevirtual 130, 3) := by decide +kernel
theorem dX8_behind_37 : decode cX8_behind 37 = .ok (.pop, 1) := by decide +kernel
theorem dX8_behind_38 : decode cX8_behind 38 = .ok (.iinc 3 1, 3) := by decide +kernel
theorem dX8_behind_41 : decode cX8_behind 41 = .ok (.goto (-13), 3) := by decide +kernel
theorem dX8_behind_44 : decode cX8_behind 44 = .ok (.iload_n 2, 1) := by decide +kernel
theorem dX8_behind_45 : decode cX8_behind 45 = .ok (.ifCond .ne 12, 3) := by decide +kernel
theorem dX8_behind_48 : decode cX8_behind 48 = .ok (.aload_n 0, 1) := by decide +kernel
theorem dX8_behind_49 : decode cX8_behind 49 = .ok (.getfield 19, 3) := by decide +kernel
theorem dX8_behind_52 : decode cX8_behind 52 = .ok (.iconst 2, 1) := by decide +kernel
theorem dX8_behind_53 : decode cX8_behind 53 = .ok (.iaload, 1) := by decide +kernel
theorem dX8_behind_54 : decode cX8_behind 54 = .ok (.goto 50, 3) := by decide +kernel
theorem dX8_behind_57 : decode cX8_behind 57 = .ok (.iload_n 2, 1) := by decide +kernel
theorem dX8_behind_58 : decode cX8_behind 58 = .ok (.iconst 1, 1) := by decide +kernel
theorem dX8_behind_59 : decode cX8_behind 59 = .ok (.if_icmp .ne 12, 3) := by decide +kernel
theorem dX8_behind_62 : decode cX8_behind 62 = .ok (.aload_n 0, 1) := by decide +kernel
theorem dX8_behind_63 : decode cX8_behind 63 = .ok (.getfield 19, 3) := by decide +kernel
theorem dX8_behind_66 : decode cX8_behind 66 = .ok (.iconst 3, 1) := by decide +kernel
theorem dX8_behind_67 : decode cX8_behind 67 = .ok (.iaload, 1) := by decide +kernel
theorem dX8_behind_68 : decode cX8_behind 68 = .ok (.goto 36, 3) := by decide +kernel
theorem dX8_behind_71 : decode cX8_behind 71 = .ok (.iload_n 2, 1) := by decide +kernel
theorem dX8_behind_72 : decode cX8_behind 72 = .ok (.iconst 2, 1) := by decide +kernel
theorem dX8_behind_73 : decode cX8_behind 73 = .ok (.if_icmp .ne 20, 3) := by decide +kernel
theorem dX8_behind_76 : decode cX8_behind 76 = .ok (.aload_n 0, 1) := by decide +kernel
theorem dX8_behind_77 : decode cX8_behind 77 = .ok (.getfield 19, 3) := by decide +kernel
theorem dX8_behind_80 : decode cX8_behind 80 = .ok (.bipush 30, 2) := by decide +kernel
theorem dX8_behind_82 : decode cX8_behind 82 = .ok (.aload_n 0, 1) := by decide +kernel
theorem dX8_behind_83 : decode cX8_behind 83 = .ok (.getfield 19, 3) := by decide +kernel
theorem dX8_behind_86 : decode cX8_behind 86 = .ok (.iconst 2, 1) := by decide +kernel
theorem dX8_behind_87 : decode cX8_behind 87 = .ok (.iaload, 1) := by decide +kernel
theorem dX8_behind_88 : decode cX8_behind 88 = .ok (.iadd, 1) := by decide +kernel
theorem dX8_behind_89 : decode cX8_behind 89 = .ok (.iaload, 1) := by decide +kernel
theorem dX8_behind_90 : decode cX8_behind 90 = .ok (.goto 14, 3) := by decide +kernel
theorem dX8_behind_93 : decode cX8_behind 93 = .ok (.aload_n 0, 1) := by decide +kernel
theorem dX8_behind_94 : decode cX8_behind 94 = .ok (.getfield 19, 3) := by decide +kernel
theorem dX8_behind_97 : decode cX8_behind 97 = .ok (.bipush 24, 2) := by decide +kernel
theorem dX8_behind_99 : decode cX8_behind 99 = .ok (.iload_n 2, 1) := by decide +kernel
theorem dX8_behind_100 : decode cX8_behind 100 = .ok (.iadd, 1) := by decide +kernel
theorem dX8_behind_101 : decode cX8_behind 101 = .ok (.iconst 3, 1) := by decide +kernel
theorem dX8_behind_102 : decode cX8_behind 102 = .ok (.isub, 1) := by decide +kernel
theorem dX8_behind_103 : decode cX8_behind 103 = .ok (.iaload, 1) := by decide +kernel
theorem dX8_behind_104 : decode cX8_behind 104 = .ok (.istore_n 3, 1) := by decide +kernel
theorem dX8_behind_105 : decode cX8_behind 105 = .ok (.aload_n 0, 1) := by decide +kernel
theorem dX8_behind_106 : decode cX8_behind 106 = .ok (.invokevirtual 142, 3) := by decide +kernel
theorem dX8_behind_109 : decode cX8_behind 109 = .ok (.iload_n 3, 1) := by decide +kernel
theorem dX8_behind_110 : decode cX8_behind 110 = .ok (.ireturn, 1) := by decide +kernel
theorem dX8_first_0 : decode cX8_first 0 = .ok (.iload_n 1, 1) := by decide +kernel
theorem dX8_first_1 : decode cX8_first 1 = .ok (.iconst 0, 1) := by decide +kernel
theorem dX8_first_2 : decode cX8_first 2 = .ok (.iconst 1, 1) := by decide +kernel
theorem dX8_first_3 : decode cX8_first 3 = .ok (.invokestatic 45, 3) := by decide +kernel
theorem dX8_first_6 : decode cX8_first 6 = .ok (.ifCond .ne 6, 3) := by decide +kernel
theorem dX8_first_9 : decode cX8_first 9 = .ok (.bipush (-2), 2) := by decide +kernel
theorem dX8_first_11 : decode cX8_first 11 = .ok (.ireturn, 1) := by decide +kernel
theorem dX8_first_12 : decode cX8_first 12 = .ok (.aload_n 0, 1) := by decide +kernel
theorem dX8_first_13 : decode cX8_first 13 = .ok (.invokevirtual 139, 3) := by decide +kernel
theorem dX8_first_16 : decode cX8_first 16 = .ok (.iconst (-1), 1) := by decide +kernel
theorem dX8_first_17 : decode cX8_first 17 = .ok (.istore_n 2, 1) := by decide +kernel
theorem dX8_first_18 : decode cX8_first 18 = .ok (.iconst 1, 1) := by decide +kernel
theorem dX8_first_19 : decode cX8_first 19 = .ok (.istore_n 3, 1) := by decide +kernel
theorem dX8_first_20 : decode cX8_first 20 = .ok (.iload_n 3, 1) := by decide +kernel
theorem dX8_first_21 : decode cX8_first 21 = .ok (.bipush 100, 2) := by decide +kernel
theorem dX8_first_23 : decode cX8_first 23 = .ok (.if_icmp .ge 28, 3) := by decide +kernel
theorem dX8_first_26 : decode cX8_first 26 = .ok (.iload_n 2, 1) := by decide +kernel
theorem dX8_first_27 : decode cX8_first 27 = .ok (.iconst (-1), 1) := by decide +kernel
theorem dX8_first_28 : decode cX8_first 28 = .ok (.if_icmp .ne 23, 3) := by decide +kernel
theorem dX8_first_31 : decode cX8_first 31 = .ok (.aload_n 0, 1) := by decide +kernel
theorem dX8_first_32 : decode cX8_first 32 = .ok (.invokevirtual 130, 3) := by decide +kernel
theorem dX8_first_35 : decode cX8_first 35 = .ok (.iload_n 1, 1) := by decide +kernel
theorem dX8_first_36 : decode cX8_first 36 = .ok (.if_icmp .ne 7, 3) := by decide +kernel
theorem dX8_first_39 : decode cX8_first 39 = .ok (.iload_n 3, 1) := by decide +kernel
theorem dX8_first_40 : decode cX8_first 40 = .ok (.goto 4, 3) := by decide +kernel
theorem dX8_first_43 : decode cX8_first 43 = .ok (.iconst (-1), 1) := by decide +kernel
theorem dX8_first_44 : decode cX8_first 44 = .ok (.istore_n 2, 1) := by decide +kernel
theorem dX8_first_45 : decode cX8_first 45 = .ok (.iinc 3 1, 3) := by decide +kernel
theorem dX8_first_48 : decode cX8_first 48 = .ok (.goto (-28), 3) := by decide +kernel
theorem dX8_first_51 : decode cX8_first 51 = .ok (.aload_n 0, 1) := by decide +kernel
theorem dX8_first_52 : decode cX8_first 52 = .ok (.invokevirtual 142, 3) := by decide +kernel
theorem dX8_first_55 : decode cX8_first 55 = .ok (.iload_n 2, 1) := by decide +kernel
theorem dX8_first_56 : decode cX8_first 56 = .ok (.ireturn, 1) := by decide +kernel
theorem dX8_plot_0 : decode cX8_plot 0 = .ok (.iload_n 1, 1) := by decide +kernel
theorem dX8_plot_1 : decode cX8_plot 1 = .ok (.iconst 0, 1) := by decide +kernel
theorem dX8_plot_2 : decode cX8_plot 2 = .ok (.iconst 1, 1) := by decide +kernel
theorem dX8_plot_3 : decode cX8_plot 3 = .ok (.invokestatic 45, 3) := by decide +kernel
theorem dX8_plot_6 : decode cX8_plot 6 = .ok (.ifCond .ne 6, 3) := by decide +kernel
theorem dX8_plot_9 : decode cX8_plot 9 = .ok (.bipush (-2), 2) := by decide +kernel
theorem dX8_plot_11 : decode cX8_plot 11 = .ok (.ireturn, 1) := by decide +kernel
theorem dX8_plot_12 : decode cX8_plot 12 = .ok (.iload_n 2, 1) := by decide +kernel
theorem dX8_plot_13 : decode cX8_plot 13 = .ok (.iconst 1, 1) := by decide +kernel
theorem dX8_plot_14 : decode cX8_plot 14 = .ok (.bipush 40, 2) := by decide +kernel
theorem dX8_plot_16 : decode cX8_plot 16 = .ok (.invokestatic 45, 3) := by decide +kernel
theorem dX8_plot_19 : decode cX8_plot 19 = .ok (.ifCond .eq 12, 3) := by decide +kernel
theorem dX8_plot_22 : decode cX8_plot 22 = .ok (.iload_n 3, 1) := by decide +kernel
theorem dX8_plot_23 : decode cX8_plot 23 = .ok (.iconst 0, 1) := by decide +kernel
theorem dX8_plot_24 : decode cX8_plot 24 = .ok (.iconst 2, 1) := by decide +kernel
theorem dX8_plot_25 : decode cX8_plot 25 = .ok (.invokestatic 45, 3) := by decide +kernel
theorem dX8_plot_28 : decode cX8_plot 28 = .ok (.ifCond .ne 6, 3) := by decide +kernel
theorem dX8_plot_31 : decode cX8_plot 31 = .ok (.bipush (-3), 2) := by decide +kernel
theorem dX8_plot_33 : decode cX8_plot 33 = .ok (.ireturn, 1) := by decide +kernel
theorem dX8_plot_34 : decode cX8_plot 34 = .ok (.aload_n 0, 1) := by decide +kernel
theorem dX8_plot_35 : decode cX8_plot 35 = .ok (.getfield 19, 3) := by decide +kernel
theorem dX8_plot_38 : decode cX8_plot 38 = .ok (.bipush 6, 2) := by decide +kernel
theorem dX8_plot_40 : decode cX8_plot 40 = .ok (.iload_n 1, 1) := by decide +kernel
theorem dX8_plot_41 : decode cX8_plot 41 = .ok (.iadd, 1) := by decide +kernel
theorem dX8_plot_42 : decode cX8_plot 42 = .ok (.iaload, 1) := by decide +kernel
theorem dX8_plot_43 : decode cX8_plot 43 = .ok (.bipush 6, 2) := by decide +kernel
theorem dX8_plot_45 : decode cX8_plot 45 = .ok (.if_icmp .le 6, 3) := by decide +kernel
theorem dX8_plot_48 : decode cX8_plot 48 = .ok (.bipush (-4), 2) := by decide +kernel
theorem dX8_plot_50 : decode cX8_plot 50 = .ok (.ireturn, 1) := by decide +kernel
theorem dX8_plot_51 : decode cX8_plot 51 = .ok (.aload_n 0, 1) := by decide +kernel
theorem dX8_plot_52 : decode cX8_plot 52 = .ok (.invokevirtual 139, 3) := by decide +kernel
theorem dX8_plot_55 : decode cX8_plot 55 = .ok (.iconst (-1), 1) := by decide +kernel
theorem dX8_plot_56 : decode cX8_plot 56 = .ok (.istore 4, 2) := by decide +kernel
theorem dX8_plot_58 : decode cX8_plot 58 = .ok (.iconst (-1), 1) := by decide +kernel
theorem dX8_plot_59 : decode cX8_plot 59 = .ok (.istore 5, 2) := by decide +kernel
theorem dX8_plot_61 : decode cX8_plot 61 = .ok (.iconst 1, 1) := by decide +kernel
theorem dX8_plot_62 : decode cX8_plot 62 = .ok (.istore 6, 2) := by decide +kernel
theorem dX8_plot_64 : decode cX8_plot 64 = .ok (.iload 6, 2) := by decide +kernel
theorem dX8_plot_66 : decode cX8_plot 66 = .ok (.bipush 50, 2) := by decide +kernel
