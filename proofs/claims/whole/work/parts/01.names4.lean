theorem dX7_gainOfMarches_56 : decode cX7_gainOfMarches 56 = .ok (.invokevirtual 169, 3) := by decide +kernel
theorem dX7_gainOfMarches_59 : decode cX7_gainOfMarches 59 = .ok (.istore 7, 2) := by decide +kernel
theorem dX7_gainOfMarches_61 : decode cX7_gainOfMarches 61 = .ok (.iload 7, 2) := by decide +kernel
theorem dX7_gainOfMarches_63 : decode cX7_gainOfMarches 63 = .ok (.iload_n 1, 1) := by decide +kernel
theorem dX7_gainOfMarches_64 : decode cX7_gainOfMarches 64 = .ok (.if_icmp .ne 5, 3) := by decide +kernel
theorem dX7_gainOfMarches_67 : decode cX7_gainOfMarches 67 = .ok (.iconst (-1), 1) := by decide +kernel
theorem dX7_gainOfMarches_68 : decode cX7_gainOfMarches 68 = .ok (.ireturn, 1) := by decide +kernel
theorem dX7_gainOfMarches_69 : decode cX7_gainOfMarches 69 = .ok (.iload 7, 2) := by decide +kernel
theorem dX7_gainOfMarches_71 : decode cX7_gainOfMarches 71 = .ok (.iconst (-1), 1) := by decide +kernel
theorem dX7_gainOfMarches_72 : decode cX7_gainOfMarches 72 = .ok (.if_icmp .eq 6, 3) := by decide +kernel
theorem dX7_gainOfMarches_75 : decode cX7_gainOfMarches 75 = .ok (.iinc 5 1, 3) := by decide +kernel
theorem dX7_gainOfMarches_78 : decode cX7_gainOfMarches 78 = .ok (.iinc 6 1, 3) := by decide +kernel
theorem dX7_gainOfMarches_81 : decode cX7_gainOfMarches 81 = .ok (.goto (-35), 3) := by decide +kernel
theorem dX7_gainOfMarches_84 : decode cX7_gainOfMarches 84 = .ok (.iload 5, 2) := by decide +kernel
theorem dX7_gainOfMarches_86 : decode cX7_gainOfMarches 86 = .ok (.ireturn, 1) := by decide +kernel
set_option maxRecDepth 20000 in
theorem ggX7_wouldExplain_X0_copyFrom : GoodIn wsX7_wouldExplain wsX0_copyFrom := goodIn_r _ [8, 9, 10, 11, 12, 13, 14, 15, 16, 17, 18, 19, 20, 21, 22, 23, 24, 25, 26, 27, 28, 29, 30, 31, 32, 33, 34, 35, 102, 103, 104, 105, 106, 107, 108, 109, 110, 111, 112, 113, 114, 115, 116, 117, 118] (by decide +kernel) (by decide +kernel)
set_option maxRecDepth 20000 in
theorem gX7_wouldExplain_X0_copyFrom : GoodIn wsX7_wouldExplain (wsV RX7 164 RX0 yX0_copyFrom wsX0_copyFrom) := goodIn_app (goodIn_of _ (by decide +kernel)) ggX7_wouldExplain_X0_copyFrom
set_option maxRecDepth 20000 in
theorem ggX7_wouldExplain_X1_replaceNext : GoodIn wsX7_wouldExplain wsX1_replaceNext := goodIn_r _ [39, 33, 35, 116, 117, 118] (by decide +kernel) (by decide +kernel)
set_option maxRecDepth 20000 in
theorem gX7_wouldExplain_X1_replaceNext : GoodIn wsX7_wouldExplain (wsV RX7 217 RX1 yX1_replaceNext wsX1_replaceNext) := goodIn_app (goodIn_of _ (by decide +kernel)) ggX7_wouldExplain_X1_replaceNext
set_option maxRecDepth 20000 in
theorem ggX7_wouldExplain_X5_areSoIn : GoodIn wsX7_wouldExplain wsX5_areSoIn := goodIn_r _ [44, 45, 46, 47, 43, 48, 49, 50, 51, 52, 53, 54, 55, 56, 57, 7, 58, 18, 26, 17, 59, 60, 61, 62, 12, 63, 64, 65, 66, 67, 68, 69, 30, 70, 32, 33, 34, 21, 22, 23, 35, 71, 72, 73, 74, 16, 25, 75, 76, 77, 78, 14, 15, 10, 9, 24, 19, 79, 80, 81, 82, 83, 84, 85, 86, 13, 11, 87, 88, 89, 90, 91, 92, 119, 120, 121, 102, 103, 104, 105, 106, 107, 108, 109, 110, 111, 112, 113, 114, 115, 116, 117, 118] (by decide +kernel) (by decide +kernel)
set_option maxRecDepth 20000 in
theorem gX7_wouldExplain_X5_areSoIn : GoodIn wsX7_wouldExplain (wsV RX7 182 RX5 yX5_areSoIn wsX5_areSoIn) := goodIn_app (goodIn_of _ (by decide +kernel)) ggX7_wouldExplain_X5_areSoIn
theorem dX7_wouldExplain_0 : decode cX7_wouldExplain 0 = .ok (.aload_n 0, 1) := by decide +kernel
theorem dX7_wouldExplain_1 : decode cX7_wouldExplain 1 = .ok (.getfield 39, 3) := by decide +kernel
theorem dX7_wouldExplain_4 : decode cX7_wouldExplain 4 = .ok (.aload_n 0, 1) := by decide +kernel
theorem dX7_wouldExplain_5 : decode cX7_wouldExplain 5 = .ok (.getfield 35, 3) := by decide +kernel
theorem dX7_wouldExplain_8 : decode cX7_wouldExplain 8 = .ok (.invokevirtual 164, 3) := by decide +kernel
theorem dX7_wouldExplain_11 : decode cX7_wouldExplain 11 = .ok (.aload_n 0, 1) := by decide +kernel
theorem dX7_wouldExplain_12 : decode cX7_wouldExplain 12 = .ok (.getfield 39, 3) := by decide +kernel
theorem dX7_wouldExplain_15 : decode cX7_wouldExplain 15 = .ok (.getfield 103, 3) := by decide +kernel
theorem dX7_wouldExplain_18 : decode cX7_wouldExplain 18 = .ok (.iload_n 1, 1) := by decide +kernel
theorem dX7_wouldExplain_19 : decode cX7_wouldExplain 19 = .ok (.aaload, 1) := by decide +kernel
theorem dX7_wouldExplain_20 : decode cX7_wouldExplain 20 = .ok (.iload_n 2, 1) := by decide +kernel
theorem dX7_wouldExplain_21 : decode cX7_wouldExplain 21 = .ok (.iload_n 3, 1) := by decide +kernel
theorem dX7_wouldExplain_22 : decode cX7_wouldExplain 22 = .ok (.invokevirtual 217, 3) := by decide +kernel
theorem dX7_wouldExplain_25 : decode cX7_wouldExplain 25 = .ok (.aload_n 0, 1) := by decide +kernel
theorem dX7_wouldExplain_26 : decode cX7_wouldExplain 26 = .ok (.getfield 60, 3) := by decide +kernel
theorem dX7_wouldExplain_29 : decode cX7_wouldExplain 29 = .ok (.aload_n 0, 1) := by decide +kernel
theorem dX7_wouldExplain_30 : decode cX7_wouldExplain 30 = .ok (.getfield 39, 3) := by decide +kernel
theorem dX7_wouldExplain_33 : decode cX7_wouldExplain 33 = .ok (.invokevirtual 182, 3) := by decide +kernel
theorem dX7_wouldExplain_36 : decode cX7_wouldExplain 36 = .ok (.ireturn, 1) := by decide +kernel
set_option maxRecDepth 20000 in
theorem ggX8_init_X8_forgets : GoodIn wsX8_init wsX8_forgets := goodIn_r _ [19, 7, 6, 26, 27, 28, 29, 30, 31, 32, 33, 34, 35, 36, 37, 38, 39, 40, 41] (by decide +kernel) (by decide +kernel)
set_option maxRecDepth 20000 in
theorem gX8_init_X8_forgets : GoodIn wsX8_init (wsV RX8 38 RX8 yX8_forgets wsX8_forgets) := goodIn_app (goodIn_of _ (by decide +kernel)) ggX8_init_X8_forgets
set_option maxRecDepth 20000 in
theorem ggX8_init_X8_lays : GoodIn wsX8_init wsX8_lays := goodIn_r _ [23, 8, 6, 24, 25, 12, 26, 27, 28, 29, 30, 31, 32, 33, 34, 35, 36, 37, 38, 39, 40, 41] (by decide +kernel) (by decide +kernel)
set_option maxRecDepth 20000 in
theorem gX8_init_X8_lays : GoodIn wsX8_init (wsV RX8 42 RX8 yX8_lays wsX8_lays) := goodIn_app (goodIn_of _ (by decide +kernel)) ggX8_init_X8_lays
theorem dX8_init_0 : decode cX8_init 0 = .ok (.aload_n 0, 1) := by decide +kernel
theorem dX8_init_1 : decode cX8_init 1 = .ok (.invokespecial 1, 3) := by decide +kernel
theorem dX8_init_4 : decode cX8_init 4 = .ok (.aload_n 0, 1) := by decide +kernel
theorem dX8_init_5 : decode cX8_init 5 = .ok (.sipush 160, 3) := by decide +kernel
theorem dX8_init_8 : decode cX8_init 8 = .ok (.newarray .int, 2) := by decide +kernel
theorem dX8_init_10 : decode cX8_init 10 = .ok (.putfield 7, 3) := by decide +kernel
theorem dX8_init_13 : decode cX8_init 13 = .ok (.aload_n 0, 1) := by decide +kernel
theorem dX8_init_14 : decode cX8_init 14 = .ok (.bipush 23, 2) := by decide +kernel
theorem dX8_init_16 : decode cX8_init 16 = .ok (.newarray .int, 2) := by decide +kernel
theorem dX8_init_18 : decode cX8_init 18 = .ok (.putfield 13, 3) := by decide +kernel
theorem dX8_init_21 : decode cX8_init 21 = .ok (.aload_n 0, 1) := by decide +kernel
theorem dX8_init_22 : decode cX8_init 22 = .ok (.bipush 23, 2) := by decide +kernel
theorem dX8_init_24 : decode cX8_init 24 = .ok (.newarray .int, 2) := by decide +kernel
theorem dX8_init_26 : decode cX8_init 26 = .ok (.putfield 16, 3) := by decide +kernel
theorem dX8_init_29 : decode cX8_init 29 = .ok (.aload_n 0, 1) := by decide +kernel
theorem dX8_init_30 : decode cX8_init 30 = .ok (.bipush 66, 2) := by decide +kernel
theorem dX8_init_32 : decode cX8_init 32 = .ok (.newarray .int, 2) := by decide +kernel
theorem dX8_init_34 : decode cX8_init 34 = .ok (.putfield 19, 3) := by decide +kernel
theorem dX8_init_37 : decode cX8_init 37 = .ok (.aload_n 0, 1) := by decide +kernel
theorem dX8_init_38 : decode cX8_init 38 = .ok (.sipush 528, 3) := by decide +kernel
theorem dX8_init_41 : decode cX8_init 41 = .ok (.newarray .int, 2) := by decide +kernel
theorem dX8_init_43 : decode cX8_init 43 = .ok (.putfield 22, 3) := by decide +kernel
theorem dX8_init_46 : decode cX8_init 46 = .ok (.aload_n 0, 1) := by decide +kernel
theorem dX8_init_47 : decode cX8_init 47 = .ok (.sipush 132, 3) := by decide +kernel
theorem dX8_init_50 : decode cX8_init 50 = .ok (.newarray .int, 2) := by decide +kernel
theorem dX8_init_52 : decode cX8_init 52 = .ok (.putfield 25, 3) := by decide +kernel
theorem dX8_init_55 : decode cX8_init 55 = .ok (.aload_n 0, 1) := by decide +kernel
theorem dX8_init_56 : decode cX8_init 56 = .ok (.iconst 2, 1) := by decide +kernel
theorem dX8_init_57 : decode cX8_init 57 = .ok (.newarray .boolean, 2) := by decide +kernel
theorem dX8_init_59 : decode cX8_init 59 = .ok (.putfield 28, 3) := by decide +kernel
theorem dX8_init_62 : decode cX8_init 62 = .ok (.aload_n 0, 1) := by decide +kernel
theorem dX8_init_63 : decode cX8_init 63 = .ok (.bipush 6, 2) := by decide +kernel
theorem dX8_init_65 : decode cX8_init 65 = .ok (.newarray .int, 2) := by decide +kernel
theorem dX8_init_67 : decode cX8_init 67 = .ok (.putfield 32, 3) := by decide +kernel
theorem dX8_init_70 : decode cX8_init 70 = .ok (.aload_n 0, 1) := by decide +kernel
theorem dX8_init_71 : decode cX8_init 71 = .ok (.bipush 66, 2) := by decide +kernel
theorem dX8_init_73 : decode cX8_init 73 = .ok (.newarray .int, 2) := by decide +kernel
theorem dX8_init_75 : decode cX8_init 75 = .ok (.putfield 35, 3) := by decide +kernel
theorem dX8_init_78 : decode cX8_init 78 = .ok (.aload_n 0, 1) := by decide +kernel
theorem dX8_init_79 : decode cX8_init 79 = .ok (.iconst 4, 1) := by decide +kernel
theorem dX8_init_80 : decode cX8_init 80 = .ok (.iconst 4, 1) := by decide +kernel
theorem dX8_init_81 : decode cX8_init 81 = .ok (.invokevirtual 38, 3) := by decide +kernel
theorem dX8_init_84 : decode cX8_init 84 = .ok (.aload_n 0, 1) := by decide +kernel
theorem dX8_init_85 : decode cX8_init 85 = .ok (.invokevirtual 42, 3) := by decide +kernel
theorem dX8_init_88 : decode cX8_init 88 = .ok (.return_, 1) := by decide +kernel
theorem dX8_in_0 : decode cX8_in 0 = .ok (.iload_n 0, 1) := by decide +kernel
theorem dX8_in_1 : decode cX8_in 1 = .ok (.iload_n 1, 1) := by decide +kernel
theorem dX8_in_2 : decode cX8_in 2 = .ok (.if_icmp .lt 12, 3) := by decide +kernel
theorem dX8_in_5 : decode cX8_in 5 = .ok (.iload_n 0, 1) := by decide +kernel
theorem dX8_in_6 : decode cX8_in 6 = .ok (.iload_n 2, 1) := by decide +kernel
theorem dX8_in_7 : decode cX8_in 7 = .ok (.if_icmp .gt 7, 3) := by decide +kernel
theorem dX8_in_10 : decode cX8_in 10 = .ok (.iconst 1, 1) := by decide +kernel
theorem dX8_in_11 : decode cX8_in 11 = .ok (.goto 4, 3) := by decide +kernel
theorem dX8_in_14 : decode cX8_in 14 = .ok (.iconst 0, 1) := by decide +kernel
theorem dX8_in_15 : decode cX8_in 15 = .ok (.ireturn, 1) := by decide +kernel
theorem dX8_cells_0 : decode cX8_cells 0 = .ok (.aload_n 0, 1) := by decide +kernel
theorem dX8_cells_1 : decode cX8_cells 1 = .ok (.getfield 13, 3) := by decide +kernel
theorem dX8_cells_4 : decode cX8_cells 4 = .ok (.iconst 0, 1) := by decide +kernel
theorem dX8_cells_5 : decode cX8_cells 5 = .ok (.iaload, 1) := by decide +kernel
theorem dX8_cells_6 : decode cX8_cells 6 = .ok (.aload_n 0, 1) := by decide +kernel
theorem dX8_cells_7 : decode cX8_cells 7 = .ok (.getfield 13, 3) := by decide +kernel
theorem dX8_cells_10 : decode cX8_cells 10 = .ok (.iconst 1, 1) := by decide +kernel
theorem dX8_cells_11 : decode cX8_cells 11 = .ok (.iaload, 1) := by decide +kernel
theorem dX8_cells_12 : decode cX8_cells 12 = .ok (.imul, 1) := by decide +kernel
theorem dX8_cells_13 : decode cX8_cells 13 = .ok (.ireturn, 1) := by decide +kernel
set_option maxRecDepth 20000 in
theorem ggX8_write_X8_in : GoodIn wsX8_write wsX8_in := goodIn_r _ [6] (by decide +kernel) (by decide +kernel)
set_option maxRecDepth 20000 in
theorem gX8_write_X8_in : GoodIn wsX8_write (va_wsS RX8 45 yX8_in wsX8_in) := goodIn_app (goodIn_of _ (by decide +kernel)) ggX8_write_X8_in
theorem dX8_write_0 : decode cX8_write 0 = .ok (.iload_n 1, 1) := by decide +kernel
theorem dX8_write_1 : decode cX8_write 1 = .ok (.iconst 0, 1) := by decide +kernel
theorem dX8_write_2 : decode cX8_write 2 = .ok (.sipush 255, 3) := by decide +kernel
theorem dX8_write_5 : decode cX8_write 5 = .ok (.invokestatic 45, 3) := by decide +kernel
theorem dX8_write_8 : decode cX8_write 8 = .ok (.ifCond .ne 6, 3) := by decide +kernel
theorem dX8_write_11 : decode cX8_write 11 = .ok (.bipush (-3), 2) := by decide +kernel
theorem dX8_write_13 : decode cX8_write 13 = .ok (.ireturn, 1) := by decide +kernel
theorem dX8_write_14 : decode cX8_write 14 = .ok (.aload_n 0, 1) := by decide +kernel
theorem dX8_write_15 : decode cX8_write 15 = .ok (.getfield 49, 3) := by decide +kernel
theorem dX8_write_18 : decode cX8_write 18 = .ok (.sipush 160, 3) := by decide +kernel
theorem dX8_write_21 : decode cX8_write 21 = .ok (.if_icmp .ne 6, 3) := by decide +kernel
theorem dX8_write_24 : decode cX8_write 24 = .ok (.bipush (-5), 2) := by decide +kernel
theorem dX8_write_26 : decode cX8_write 26 = .ok (.ireturn, 1) := by decide +kernel
theorem dX8_write_27 : decode cX8_write 27 = .ok (.aload_n 0, 1) := by decide +kernel
theorem dX8_write_28 : decode cX8_write 28 = .ok (.getfield 7, 3) := by decide +kernel
theorem dX8_write_31 : decode cX8_write 31 = .ok (.aload_n 0, 1) := by decide +kernel
theorem dX8_write_32 : decode cX8_write 32 = .ok (.getfield 49, 3) := by decide +kernel
theorem dX8_write_35 : decode cX8_write 35 = .ok (.iload_n 1, 1) := by decide +kernel
theorem dX8_write_36 : decode cX8_write 36 = .ok (.iastore, 1) := by decide +kernel
theorem dX8_write_37 : decode cX8_write 37 = .ok (.aload_n 0, 1) := by decide +kernel
theorem dX8_write_38 : decode cX8_write 38 = .ok (.dup, 1) := by decide +kernel
theorem dX8_write_39 : decode cX8_write 39 = .ok (.getfield 49, 3) := by decide +kernel
theorem dX8_write_42 : decode cX8_write 42 = .ok (.iconst 1, 1) := by decide +kernel
theorem dX8_write_43 : decode cX8_write 43 = .ok (.iadd, 1) := by decide +kernel
theorem dX8_write_44 : decode cX8_write 44 = .ok (.putfield 49, 3) := by decide +kernel
theorem dX8_write_47 : decode cX8_write 47 = .ok (.aload_n 0, 1) := by decide +kernel
theorem dX8_write_48 : decode cX8_write 48 = .ok (.getfield 49, 3) := by decide +kernel
theorem dX8_write_51 : decode cX8_write 51 = .ok (.ireturn, 1) := by decide +kernel
theorem dX8_erase_0 : decode cX8_erase 0 = .ok (.aload_n 0, 1) := by decide +kernel
theorem dX8_erase_1 : decode cX8_erase 1 = .ok (.getfield 49, 3) := by decide +kernel
theorem dX8_erase_4 : decode cX8_erase 4 = .ok (.istore_n 1, 1) := by decide +kernel
theorem dX8_erase_5 : decode cX8_erase 5 = .ok (.aload_n 0, 1) := by decide +kernel
theorem dX8_erase_6 : decode cX8_erase 6 = .ok (.iconst 0, 1) := by decide +kernel
theorem dX8_erase_7 : decode cX8_erase 7 = .ok (.putfield 49, 3) := by decide +kernel
theorem dX8_erase_10 : decode cX8_erase 10 = .ok (.iload_n 1, 1) := by decide +kernel
theorem dX8_erase_11 : decode cX8_erase 11 = .ok (.ireturn, 1) := by decide +kernel
theorem dX8_letterAt_0 : decode cX8_letterAt 0 = .ok (.iload_n 1, 1) := by decide +kernel
theorem dX8_letterAt_1 : decode cX8_letterAt 1 = .ok (.aload_n 0, 1) := by decide +kernel
theorem dX8_letterAt_2 : decode cX8_letterAt 2 = .ok (.getfield 49, 3) := by decide +kernel
theorem dX8_letterAt_5 : decode cX8_letterAt 5 = .ok (.if_icmp .ge 12, 3) := by decide +kernel
theorem dX8_letterAt_8 : decode cX8_letterAt 8 = .ok (.aload_n 0, 1) := by decide +kernel
theorem dX8_letterAt_9 : decode cX8_letterAt 9 = .ok (.getfield 7, 3) := by decide +kernel
theorem dX8_letterAt_12 : decode cX8_letterAt 12 = .ok (.iload_n 1, 1) := by decide +kernel
theorem dX8_letterAt_13 : decode cX8_letterAt 13 = .ok (.iaload, 1) := by decide +kernel
theorem dX8_letterAt_14 : decode cX8_letterAt 14 = .ok (.goto 4, 3) := by decide +kernel
theorem dX8_letterAt_17 : decode cX8_letterAt 17 = .ok (.iconst (-1), 1) := by decide +kernel
theorem dX8_letterAt_18 : decode cX8_letterAt 18 = .ok (.ireturn, 1) := by decide +kernel
set_option maxRecDepth 20000 in
theorem ggX8_isLetter_X8_in : GoodIn wsX8_isLetter wsX8_in := goodIn_r _ [4] (by decide +kernel) (by decide +kernel)
set_option maxRecDepth 20000 in
theorem gX8_isLetter_X8_in : GoodIn wsX8_isLetter (va_wsS RX8 45 yX8_in wsX8_in) := goodIn_app (goodIn_of _ (by decide +kernel)) ggX8_isLetter_X8_in
theorem dX8_isLetter_0 : decode cX8_isLetter 0 = .ok (.iload_n 0, 1) := by decide +kernel
theorem dX8_isLetter_1 : decode cX8_isLetter 1 = .ok (.bipush 97, 2) := by decide +kernel
theorem dX8_isLetter_3 : decode cX8_isLetter 3 = .ok (.bipush 122, 2) := by decide +kernel
theorem dX8_isLetter_5 : decode cX8_isLetter 5 = .ok (.invokestatic 45, 3) := by decide +kernel
theorem dX8_isLetter_8 : decode cX8_isLetter 8 = .ok (.ireturn, 1) := by decide +kernel
set_option maxRecDepth 20000 in
theorem ggX8_isDigit_X8_in : GoodIn wsX8_isDigit wsX8_in := goodIn_r _ [4] (by decide +kernel) (by decide +kernel)
set_option maxRecDepth 20000 in
theorem gX8_isDigit_X8_in : GoodIn wsX8_isDigit (va_wsS RX8 45 yX8_in wsX8_in) := goodIn_app (goodIn_of _ (by decide +kernel)) ggX8_isDigit_X8_in
theorem dX8_isDigit_0 : decode cX8_isDigit 0 = .ok (.iload_n 0, 1) := by decide +kernel
theorem dX8_isDigit_1 : decode cX8_isDigit 1 = .ok (.bipush 48, 2) := by decide +kernel
theorem dX8_isDigit_3 : decode cX8_isDigit 3 = .ok (.bipush 57, 2) := by decide +kernel
theorem dX8_isDigit_5 : decode cX8_isDigit 5 = .ok (.invokestatic 45, 3) := by decide +kernel
theorem dX8_isDigit_8 : decode cX8_isDigit 8 = .ok (.ireturn, 1) := by decide +kernel
set_option maxRecDepth 20000 in
theorem ggX8_token_X8_letterAt : GoodIn wsX8_token wsX8_letterAt := goodIn_r _ [10, 11, 5, 21, 22, 23, 24, 25, 26, 27, 28, 29, 30, 31, 32, 33, 34, 35, 36] (by decide +kernel) (by decide +kernel)
set_option maxRecDepth 20000 in
theorem gX8_token_X8_letterAt : GoodIn wsX8_token (wsV RX8 56 RX8 yX8_letterAt wsX8_letterAt) := goodIn_app (goodIn_of _ (by decide +kernel)) ggX8_token_X8_letterAt
set_option maxRecDepth 20000 in
theorem ggX8_token_X8_isLetter : GoodIn wsX8_token wsX8_isLetter := goodIn_r _ [14, 15, 16, 9, 17] (by decide +kernel) (by decide +kernel)
set_option maxRecDepth 20000 in
theorem gX8_token_X8_isLetter : GoodIn wsX8_token (va_wsS RX8 63 yX8_isLetter wsX8_isLetter) := goodIn_app (goodIn_of _ (by decide +kernel)) ggX8_token_X8_isLetter
set_option maxRecDepth 20000 in
theorem ggX8_token_X8_isDigit : GoodIn wsX8_token wsX8_isDigit := goodIn_r _ [20, 15, 16, 9, 17] (by decide +kernel) (by decide +kernel)
set_option maxRecDepth 20000 in
theorem gX8_token_X8_isDigit : GoodIn wsX8_token (va_wsS RX8 67 yX8_isDigit wsX8_isDigit) := goodIn_app (goodIn_of _ (by decide +kernel)) ggX8_token_X8_isDigit
theorem dX8_token_0 : decode cX8_token 0 = .ok (.aload_n 0, 1) := by decide +kernel
theorem dX8_token_1 : decode cX8_token 1 = .ok (.aload_n 0, 1) := by decide +kernel
theorem dX8_token_2 : decode cX8_token 2 = .ok (.getfield 53, 3) := by decide +kernel
theorem dX8_token_5 : decode cX8_token 5 = .ok (.invokevirtual 56, 3) := by decide +kernel
theorem dX8_token_8 : decode cX8_token 8 = .ok (.bipush 32, 2) := by decide +kernel
theorem dX8_token_10 : decode cX8_token 10 = .ok (.if_icmp .ne 16, 3) := by decide +kernel
theorem dX8_token_13 : decode cX8_token 13 = .ok (.aload_n 0, 1) := by decide +kernel
theorem dX8_token_14 : decode cX8_token 14 = .ok (.dup, 1) := by decide +kernel
theorem dX8_token_15 : decode cX8_token 15 = .ok (.getfield 53, 3) := by decide +kernel
theorem dX8_token_18 : decode cX8_token 18 = .ok (.iconst 1, 1) := by decide +kernel
theorem dX8_token_19 : decode cX8_token 19 = .ok (.iadd, 1) := by decide +kernel
theorem dX8_token_20 : decode cX8_token 20 = .ok (.putfield 53, 3) := by decide +kernel
theorem dX8_token_23 : decode cX8_token 23 = .ok (.goto (-23), 3) := by decide +kernel
theorem dX8_token_26 : decode cX8_token 26 = .ok (.aload_n 0, 1) := by decide +kernel
theorem dX8_token_27 : decode cX8_token 27 = .ok (.aload_n 0, 1) := by decide +kernel
theorem dX8_token_28 : decode cX8_token 28 = .ok (.getfield 53, 3) := by decide +kernel
theorem dX8_token_31 : decode cX8_token 31 = .ok (.putfield 60, 3) := by decide +kernel
theorem dX8_token_34 : decode cX8_token 34 = .ok (.aload_n 0, 1) := by decide +kernel
theorem dX8_token_35 : decode cX8_token 35 = .ok (.aload_n 0, 1) := by decide +kernel
theorem dX8_token_36 : decode cX8_token 36 = .ok (.getfield 53, 3) := by decide +kernel
theorem dX8_token_39 : decode cX8_token 39 = .ok (.invokevirtual 56, 3) := by decide +kernel
theorem dX8_token_42 : decode cX8_token 42 = .ok (.istore_n 1, 1) := by decide +kernel
theorem dX8_token_43 : decode cX8_token 43 = .ok (.aload_n 0, 1) := by decide +kernel
theorem dX8_token_44 : decode cX8_token 44 = .ok (.iload_n 1, 1) := by decide +kernel
theorem dX8_token_45 : decode cX8_token 45 = .ok (.ifCond .ge 7, 3) := by decide +kernel
theorem dX8_token_48 : decode cX8_token 48 = .ok (.iconst 0, 1) := by decide +kernel
theorem dX8_token_49 : decode cX8_token 49 = .ok (.goto 26, 3) := by decide +kernel
theorem dX8_token_52 : decode cX8_token 52 = .ok (.iload_n 1, 1) := by decide +kernel
theorem dX8_token_53 : decode cX8_token 53 = .ok (.invokestatic 63, 3) := by decide +kernel
theorem dX8_token_56 : decode cX8_token 56 = .ok (.ifCond .eq 7, 3) := by decide +kernel
theorem dX8_token_59 : decode cX8_token 59 = .ok (.iconst 1, 1) := by decide +kernel
theorem dX8_token_60 : decode cX8_token 60 = .ok (.goto 15, 3) := by decide +kernel
theorem dX8_token_63 : decode cX8_token 63 = .ok (.iload_n 1, 1) := by decide +kernel
theorem dX8_token_64 : decode cX8_token 64 = .ok (.invokestatic 67, 3) := by decide +kernel
theorem dX8_token_67 : decode cX8_token 67 = .ok (.ifCond .eq 7, 3) := by decide +kernel
theorem dX8_token_70 : decode cX8_token 70 = .ok (.iconst 2, 1) := by decide +kernel
theorem dX8_token_71 : decode cX8_token 71 = .ok (.goto 4, 3) := by decide +kernel
theorem dX8_token_74 : decode cX8_token 74 = .ok (.iconst 3, 1) := by decide +kernel
theorem dX8_token_75 : decode cX8_token 75 = .ok (.putfield 70, 3) := by decide +kernel
theorem dX8_token_78 : decode cX8_token 78 = .ok (.aload_n 0, 1) := by decide +kernel
theorem dX8_token_79 : decode cX8_token 79 = .ok (.iconst 0, 1) := by decide +kernel
theorem dX8_token_80 : decode cX8_token 80 = .ok (.putfield 73, 3) := by decide +kernel
theorem dX8_token_83 : decode cX8_token 83 = .ok (.aload_n 0, 1) := by decide +kernel
theorem dX8_token_84 : decode cX8_token 84 = .ok (.getfield 70, 3) := by decide +kernel
theorem dX8_token_87 : decode cX8_token 87 = .ok (.iconst 1, 1) := by decide +kernel
theorem dX8_token_88 : decode cX8_token 88 = .ok (.if_icmp .ne 30, 3) := by decide +kernel
theorem dX8_token_91 : decode cX8_token 91 = .ok (.aload_n 0, 1) := by decide +kernel
theorem dX8_token_92 : decode cX8_token 92 = .ok (.aload_n 0, 1) := by decide +kernel
theorem dX8_token_93 : decode cX8_token 93 = .ok (.getfield 53, 3) := by decide +kernel
theorem dX8_token_96 : decode cX8_token 96 = .ok (.invokevirtual 56, 3) := by decide +kernel
theorem dX8_token_99 : decode cX8_token 99 = .ok (.invokestatic 63, 3) := by decide +kernel
theorem dX8_token_102 : decode cX8_token 102 = .ok (.ifCond .eq 16, 3) := by decide +kernel
theorem dX8_token_105 : decode cX8_token 105 = .ok (.aload_n 0, 1) := by decide +kernel
theorem dX8_token_106 : decode cX8_token 106 = .ok (.dup, 1) := by decide +kernel
theorem dX8_token_107 : decode cX8_token 107 = .ok (.getfield 53, 3) := by decide +kernel
theorem dX8_token_110 : decode cX8_token 110 = .ok (.iconst 1, 1) := by decide +kernel
theorem dX8_token_111 : decode cX8_token 111 = .ok (.iadd, 1) := by decide +kernel
theorem dX8_token_112 : decode cX8_token 112 = .ok (.putfield 53, 3) := by decide +kernel
theorem dX8_token_115 : decode cX8_token 115 = .ok (.goto (-32), 3) := by decide +kernel
theorem dX8_token_118 : decode cX8_token 118 = .ok (.aload_n 0, 1) := by decide +kernel
theorem dX8_token_119 : decode cX8_token 119 = .ok (.getfield 70, 3) := by decide +kernel
theorem dX8_token_122 : decode cX8_token 122 = .ok (.iconst 2, 1) := by decide +kernel
theorem dX8_token_123 : decode cX8_token 123 = .ok (.if_icmp .ne 72, 3) := by decide +kernel
theorem dX8_token_126 : decode cX8_token 126 = .ok (.aload_n 0, 1) := by decide +kernel
theorem dX8_token_127 : decode cX8_token 127 = .ok (.aload_n 0, 1) := by decide +kernel
theorem dX8_token_128 : decode cX8_token 128 = .ok (.getfield 53, 3) := by decide +kernel
theorem dX8_token_131 : decode cX8_token 131 = .ok (.invokevirtual 56, 3) := by decide +kernel
theorem dX8_token_134 : decode cX8_token 134 = .ok (.invokestatic 67, 3) := by decide +kernel
theorem dX8_token_137 : decode cX8_token 137 = .ok (.ifCond .eq 58, 3) := by decide +kernel
theorem dX8_token_140 : decode cX8_token 140 = .ok (.aload_n 0, 1) := by decide +kernel
theorem dX8_token_141 : decode cX8_token 141 = .ok (.aload_n 0, 1) := by decide +kernel
theorem dX8_token_142 : decode cX8_token 142 = .ok (.getfield 53, 3) := by decide +kernel
theorem dX8_token_145 : decode cX8_token 145 = .ok (.aload_n 0, 1) := by decide +kernel
theorem dX8_token_146 : decode cX8_token 146 = .ok (.getfield 60, 3) := by decide +kernel
theorem dX8_token_149 : decode cX8_token 149 = .ok (.isub, 1) := by decide +kernel
theorem dX8_token_150 : decode cX8_token 150 = .ok (.iconst 2, 1) := by decide +kernel
theorem dX8_token_151 : decode cX8_token 151 = .ok (.if_icmp .ge 26, 3) := by decide +kernel
theorem dX8_token_154 : decode cX8_token 154 = .ok (.bipush 10, 2) := by decide +kernel
theorem dX8_token_156 : decode cX8_token 156 = .ok (.aload_n 0, 1) := by decide +kernel
theorem dX8_token_157 : decode cX8_token 157 = .ok (.getfield 73, 3) := by decide +kernel
theorem dX8_token_160 : decode cX8_token 160 = .ok (.imul, 1) := by decide +kernel
theorem dX8_token_161 : decode cX8_token 161 = .ok (.aload_n 0, 1) := by decide +kernel
theorem dX8_token_162 : decode cX8_token 162 = .ok (.getfield 7, 3) := by decide +kernel
theorem dX8_token_165 : decode cX8_token 165 = .ok (.aload_n 0, 1) := by decide +kernel
theorem dX8_token_166 : decode cX8_token 166 = .ok (.getfield 53, 3) := by decide +kernel
theorem dX8_token_169 : decode cX8_token 169 = .ok (.iaload, 1) := by decide +kernel
theorem dX8_token_170 : decode cX8_token 170 = .ok (.iadd, 1) := by decide +kernel
theorem dX8_token_171 : decode cX8_token 171 = .ok (.bipush 48, 2) := by decide +kernel
theorem dX8_token_173 : decode cX8_token 173 = .ok (.isub, 1) := by decide +kernel
theorem dX8_token_174 : decode cX8_token 174 = .ok (.goto 5, 3) := by decide +kernel
theorem dX8_token_177 : decode cX8_token 177 = .ok (.bipush 100, 2) := by decide +kernel
theorem dX8_token_179 : decode cX8_token 179 = .ok (.putfield 73, 3) := by decide +kernel
theorem dX8_token_182 : decode cX8_token 182 = .ok (.aload_n 0, 1) := by decide +kernel
theorem dX8_token_183 : decode cX8_token 183 = .ok (.dup, 1) := by decide +kernel
theorem dX8_token_184 : decode cX8_token 184 = .ok (.getfield 53, 3) := by decide +kernel
theorem dX8_token_187 : decode cX8_token 187 = .ok (.iconst 1, 1) := by decide +kernel
theorem dX8_token_188 : decode cX8_token 188 = .ok (.iadd, 1) := by decide +kernel
theorem dX8_token_189 : decode cX8_token 189 = .ok (.putfield 53, 3) := by decide +kernel
theorem dX8_token_192 : decode cX8_token 192 = .ok (.goto (-74), 3) := by decide +kernel
theorem dX8_token_195 : decode cX8_token 195 = .ok (.aload_n 0, 1) := by decide +kernel
theorem dX8_token_196 : decode cX8_token 196 = .ok (.dup, 1) := by decide +kernel
theorem dX8_token_197 : decode cX8_token 197 = .ok (.getfield 53, 3) := by decide +kernel
theorem dX8_token_200 : decode cX8_token 200 = .ok (.aload_n 0, 1) := by decide +kernel
theorem dX8_token_201 : decode cX8_token 201 = .ok (.getfield 70, 3) := by decide +kernel
theorem dX8_token_204 : decode cX8_token 204 = .ok (.iconst 3, 1) := by decide +kernel
theorem dX8_token_205 : decode cX8_token 205 = .ok (.if_icmp .ne 7, 3) := by decide +kernel
theorem dX8_token_208 : decode cX8_token 208 = .ok (.iconst 1, 1) := by decide +kernel
theorem dX8_token_209 : decode cX8_token 209 = .ok (.goto 4, 3) := by decide +kernel
theorem dX8_token_212 : decode cX8_token 212 = .ok (.iconst 0, 1) := by decide +kernel
theorem dX8_token_213 : decode cX8_token 213 = .ok (.iadd, 1) := by decide +kernel
theorem dX8_token_214 : decode cX8_token 214 = .ok (.putfield 53, 3) := by decide +kernel
theorem dX8_token_217 : decode cX8_token 217 = .ok (.return_, 1) := by decide +kernel
theorem dX8_isWord_0 : decode cX8_isWord 0 = .ok (.aload_n 0, 1) := by decide +kernel
theorem dX8_isWord_1 : decode cX8_isWord 1 = .ok (.getfield 70, 3) := by decide +kernel
theorem dX8_isWord_4 : decode cX8_isWord 4 = .ok (.iconst 1, 1) := by decide +kernel
theorem dX8_isWord_5 : decode cX8_isWord 5 = .ok (.if_icmp .ne 21, 3) := by decide +kernel
theorem dX8_isWord_8 : decode cX8_isWord 8 = .ok (.aload_n 0, 1) := by decide +kernel
theorem dX8_isWord_9 : decode cX8_isWord 9 = .ok (.getfield 53, 3) := by decide +kernel
theorem dX8_isWord_12 : decode cX8_isWord 12 = .ok (.aload_n 0, 1) := by decide +kernel
theorem dX8_isWord_13 : decode cX8_isWord 13 = .ok (.getfield 60, 3) := by decide +kernel
theorem dX8_isWord_16 : decode cX8_isWord 16 = .ok (.isub, 1) := by decide +kernel
theorem dX8_isWord_17 : decode cX8_isWord 17 = .ok (.bipush 7, 2) := by decide +kernel
theorem dX8_isWord_19 : decode cX8_isWord 19 = .ok (.if_icmp .ge 7, 3) := by decide +kernel
theorem dX8_isWord_22 : decode cX8_isWord 22 = .ok (.iconst 1, 1) := by decide +kernel
theorem dX8_isWord_23 : decode cX8_isWord 23 = .ok (.goto 4, 3) := by decide +kernel
theorem dX8_isWord_26 : decode cX8_isWord 26 = .ok (.iconst 0, 1) := by decide +kernel
theorem dX8_isWord_27 : decode cX8_isWord 27 = .ok (.istore 7, 2) := by decide +kernel
theorem dX8_isWord_29 : decode cX8_isWord 29 = .ok (.iconst 0, 1) := by decide +kernel
theorem dX8_isWord_30 : decode cX8_isWord 30 = .ok (.istore 8, 2) := by decide +kernel
theorem dX8_isWord_32 : decode cX8_isWord 32 = .ok (.iload 8, 2) := by decide +kernel
theorem dX8_isWord_34 : decode cX8_isWord 34 = .ok (.bipush 6, 2) := by decide +kernel
theorem dX8_isWord_36 : decode cX8_isWord 36 = .ok (.if_icmp .ge 120, 3) := by decide +kernel
theorem dX8_isWord_39 : decode cX8_isWord 39 = .ok (.iload 7, 2) := by decide +kernel
theorem dX8_isWord_41 : decode cX8_isWord 41 = .ok (.ifCond .eq 115, 3) := by decide +kernel
theorem dX8_isWord_44 : decode cX8_isWord 44 = .ok (.iload 8, 2) := by decide +kernel
theorem dX8_isWord_46 : decode cX8_isWord 46 = .ok (.ifCond .ne 7, 3) := by decide +kernel
theorem dX8_isWord_49 : decode cX8_isWord 49 = .ok (.iload_n 1, 1) := by decide +kernel
theorem dX8_isWord_50 : decode cX8_isWord 50 = .ok (.goto 47, 3) := by decide +kernel
theorem dX8_isWord_53 : decode cX8_isWord 53 = .ok (.iload 8, 2) := by decide +kernel
theorem dX8_isWord_55 : decode cX8_isWord 55 = .ok (.iconst 1, 1) := by decide +kernel
theorem dX8_isWord_56 : decode cX8_isWord 56 = .ok (.if_icmp .ne 7, 3) := by decide +kernel
theorem dX8_isWord_59 : decode cX8_isWord 59 = .ok (.iload_n 2, 1) := by decide +kernel
theorem dX8_isWord_60 : decode cX8_isWord 60 = .ok (.goto 37, 3) := by decide +kernel
theorem dX8_isWord_63 : decode cX8_isWord 63 = .ok (.iload 8, 2) := by decide +kernel
theorem dX8_isWord_65 : decode cX8_isWord 65 = .ok (.iconst 2, 1) := by decide +kernel
theorem dX8_isWord_66 : decode cX8_isWord 66 = .ok (.if_icmp .ne 7, 3) := by decide +kernel
theorem dX8_isWord_69 : decode cX8_isWord 69 = .ok (.iload_n 3, 1) := by decide +kernel
theorem dX8_isWord_70 : decode cX8_isWord 70 = .ok (.goto 27, 3) := by decide +kernel
theorem dX8_isWord_73 : decode cX8_isWord 73 = .ok (.iload 8, 2) := by decide +kernel
theorem dX8_isWord_75 : decode cX8_isWord 75 = .ok (.iconst 3, 1) := by decide +kernel
theorem dX8_isWord_76 : decode cX8_isWord 76 = .ok (.if_icmp .ne 8, 3) := by decide +kernel
theorem dX8_isWord_79 : decode cX8_isWord 79 = .ok (.iload 4, 2) := by decide +kernel
theorem dX8_isWord_81 : decode cX8_isWord 81 = .ok (.goto 16, 3) := by decide +kernel
theorem dX8_isWord_84 : decode cX8_isWord 84 = .ok (.iload 8, 2) := by decide +kernel
theorem dX8_isWord_86 : decode cX8_isWord 86 = .ok (.iconst 4, 1) := by decide +kernel
theorem dX8_isWord_87 : decode cX8_isWord 87 = .ok (.if_icmp .ne 8, 3) := by decide +kernel
theorem dX8_isWord_90 : decode cX8_isWord 90 = .ok (.iload 5, 2) := by decide +kernel
theorem dX8_isWord_92 : decode cX8_isWord 92 = .ok (.goto 5, 3) := by decide +kernel
theorem dX8_isWord_95 : decode cX8_isWord 95 = .ok (.iload 6, 2) := by decide +kernel
theorem dX8_isWord_97 : decode cX8_isWord 97 = .ok (.istore 9, 2) := by decide +kernel
theorem dX8_isWord_99 : decode cX8_isWord 99 = .ok (.aload_n 0, 1) := by decide +kernel
theorem dX8_isWord_100 : decode cX8_isWord 100 = .ok (.getfield 60, 3) := by decide +kernel
theorem dX8_isWord_103 : decode cX8_isWord 103 = .ok (.iload 8, 2) := by decide +kernel
theorem dX8_isWord_105 : decode cX8_isWord 105 = .ok (.iadd, 1) := by decide +kernel
theorem dX8_isWord_106 : decode cX8_isWord 106 = .ok (.aload_n 0, 1) := by decide +kernel
theorem dX8_isWord_107 : decode cX8_isWord 107 = .ok (.getfield 53, 3) := by decide +kernel
theorem dX8_isWord_110 : decode cX8_isWord 110 = .ok (.if_icmp .ge 28, 3) := by decide +kernel
theorem dX8_isWord_113 : decode cX8_isWord 113 = .ok (.aload_n 0, 1) := by decide +kernel
theorem dX8_isWord_114 : decode cX8_isWord 114 = .ok (.getfield 7, 3) := by decide +kernel
theorem dX8_isWord_117 : decode cX8_isWord 117 = .ok (.aload_n 0, 1) := by decide +kernel
theorem dX8_isWord_118 : decode cX8_isWord 118 = .ok (.getfield 60, 3) := by decide +kernel
theorem dX8_isWord_121 : decode cX8_isWord 121 = .ok (.iload 8, 2) := by decide +kernel
theorem dX8_isWord_123 : decode cX8_isWord 123 = .ok (.iadd, 1) := by decide +kernel
theorem dX8_isWord_124 : decode cX8_isWord 124 = .ok (.iaload, 1) := by decide +kernel
theorem dX8_isWord_125 : decode cX8_isWord 125 = .ok (.iload 9, 2) := by decide +kernel
theorem dX8_isWord_127 : decode cX8_isWord 127 = .ok (.if_icmp .ne 7, 3) := by decide +kernel
theorem dX8_isWord_130 : decode cX8_isWord 130 = .ok (.iconst 1, 1) := by decide +kernel
theorem dX8_isWord_131 : decode cX8_isWord 131 = .ok (.goto 17, 3) := by decide +kernel
theorem dX8_isWord_134 : decode cX8_isWord 134 = .ok (.iconst 0, 1) := by decide +kernel
theorem dX8_isWord_135 : decode cX8_isWord 135 = .ok (.goto 13, 3) := by decide +kernel
theorem dX8_isWord_138 : decode cX8_isWord 138 = .ok (.iload 9, 2) := by decide +kernel
theorem dX8_isWord_140 : decode cX8_isWord 140 = .ok (.ifCond .ne 7, 3) := by decide +kernel
theorem dX8_isWord_143 : decode cX8_isWord 143 = .ok (.iconst 1, 1) := by decide +kernel
theorem dX8_isWord_144 : decode cX8_isWord 144 = .ok (.goto 4, 3) := by decide +kernel
theorem dX8_isWord_147 : decode cX8_isWord 147 = .ok (.iconst 0, 1) := by decide +kernel
theorem dX8_isWord_148 : decode cX8_isWord 148 = .ok (.istore 7, 2) := by decide +kernel
theorem dX8_isWord_150 : decode cX8_isWord 150 = .ok (.iinc 8 1, 3) := by decide +kernel
theorem dX8_isWord_153 : decode cX8_isWord 153 = .ok (.goto (-121), 3) := by decide +kernel
theorem dX8_isWord_156 : decode cX8_isWord 156 = .ok (.iload 7, 2) := by decide +kernel
theorem dX8_isWord_158 : decode cX8_isWord 158 = .ok (.ireturn, 1) := by decide +kernel
set_option maxRecDepth 20000 in
theorem ggX8_number_X8_token : GoodIn wsX8_number wsX8_token := goodIn_r _ [7, 8, 9, 1, 2, 10, 11, 12, 13, 6, 14, 15, 16, 17, 18, 19, 20, 21, 22, 23, 24, 25, 26, 27, 28, 29, 30, 31, 32, 33, 34, 35, 36, 37, 38, 39, 40] (by decide +kernel) (by decide +kernel)
set_option maxRecDepth 20000 in
theorem gX8_number_X8_token : GoodIn wsX8_number (wsV RX8 76 RX8 yX8_token wsX8_token) := goodIn_app (goodIn_of _ (by decide +kernel)) ggX8_number_X8_token
set_option maxRecDepth 20000 in
theorem ggX8_number_X8_in : GoodIn wsX8_number wsX8_in := goodIn_r _ [21] (by decide +kernel) (by decide +kernel)
set_option maxRecDepth 20000 in
theorem gX8_number_X8_in : GoodIn wsX8_number (va_wsS RX8 45 yX8_in wsX8_in) := goodIn_app (goodIn_of _ (by decide +kernel)) ggX8_number_X8_in
theorem dX8_number_0 : decode cX8_number 0 = .ok (.aload_n 0, 1) := by decide +kernel
theorem dX8_number_1 : decode cX8_number 1 = .ok (.invokevirtual 76, 3) := by decide +kernel
theorem dX8_number_4 : decode cX8_number 4 = .ok (.aload_n 0, 1) := by decide +kernel
theorem dX8_number_5 : decode cX8_number 5 = .ok (.getfield 70, 3) := by decide +kernel
theorem dX8_number_8 : decode cX8_number 8 = .ok (.iconst 2, 1) := by decide +kernel
theorem dX8_number_9 : decode cX8_number 9 = .ok (.if_icmp .ne 19, 3) := by decide +kernel
theorem dX8_number_12 : decode cX8_number 12 = .ok (.aload_n 0, 1) := by decide +kernel
theorem dX8_number_13 : decode cX8_number 13 = .ok (.getfield 73, 3) := by decide +kernel
theorem dX8_number_16 : decode cX8_number 16 = .ok (.iload_n 1, 1) := by decide +kernel
theorem dX8_number_17 : decode cX8_number 17 = .ok (.iload_n 2, 1) := by decide +kernel
theorem dX8_number_18 : decode cX8_number 18 = .ok (.invokestatic 45, 3) := by decide +kernel
theorem dX8_number_21 : decode cX8_number 21 = .ok (.ifCond .eq 7, 3) := by decide +kernel
theorem dX8_number_24 : decode cX8_number 24 = .ok (.iconst 1, 1) := by decide +kernel
theorem dX8_number_25 : decode cX8_number 25 = .ok (.goto 4, 3) := by decide +kernel
theorem dX8_number_28 : decode cX8_number 28 = .ok (.iconst 0, 1) := by decide +kernel
theorem dX8_number_29 : decode cX8_number 29 = .ok (.ireturn, 1) := by decide +kernel
theorem dX8_forgets_0 : decode cX8_forgets 0 = .ok (.iconst 0, 1) := by decide +kernel
theorem dX8_forgets_1 : decode cX8_forgets 1 = .ok (.istore_n 3, 1) := by decide +kernel
theorem dX8_forgets_2 : decode cX8_forgets 2 = .ok (.iload_n 3, 1) := by decide +kernel
theorem dX8_forgets_3 : decode cX8_forgets 3 = .ok (.bipush 23, 2) := by decide +kernel
theorem dX8_forgets_5 : decode cX8_forgets 5 = .ok (.if_icmp .ge 16, 3) := by decide +kernel
theorem dX8_forgets_8 : decode cX8_forgets 8 = .ok (.aload_n 0, 1) := by decide +kernel
theorem dX8_forgets_9 : decode cX8_forgets 9 = .ok (.getfield 16, 3) := by decide +kernel
theorem dX8_forgets_12 : decode cX8_forgets 12 = .ok (.iload_n 3, 1) := by decide +kernel
theorem dX8_forgets_13 : decode cX8_forgets 13 = .ok (.iconst 0, 1) := by decide +kernel
theorem dX8_forgets_14 : decode cX8_forgets 14 = .ok (.iastore, 1) := by decide +kernel
theorem dX8_forgets_15 : decode cX8_forgets 15 = .ok (.iinc 3 1, 3) := by decide +kernel
theorem dX8_forgets_18 : decode cX8_forgets 18 = .ok (.goto (-16), 3) := by decide +kernel
theorem dX8_forgets_21 : decode cX8_forgets 21 = .ok (.aload_n 0, 1) := by decide +kernel
theorem dX8_forgets_22 : decode cX8_forgets 22 = .ok (.getfield 16, 3) := by decide +kernel
theorem dX8_forgets_25 : decode cX8_forgets 25 = .ok (.iconst 0, 1) := by decide +kernel
theorem dX8_forgets_26 : decode cX8_forgets 26 = .ok (.iload_n 1, 1) := by decide +kernel
theorem dX8_forgets_27 : decode cX8_forgets 27 = .ok (.iastore, 1) := by decide +kernel
theorem dX8_forgets_28 : decode cX8_forgets 28 = .ok (.aload_n 0, 1) := by decide +kernel
theorem dX8_forgets_29 : decode cX8_forgets 29 = .ok (.getfield 16, 3) := by decide +kernel
theorem dX8_forgets_32 : decode cX8_forgets 32 = .ok (.iconst 1, 1) := by decide +kernel
theorem dX8_forgets_33 : decode cX8_forgets 33 = .ok (.iload_n 2, 1) := by decide +kernel
theorem dX8_forgets_34 : decode cX8_forgets 34 = .ok (.iastore, 1) := by decide +kernel
theorem dX8_forgets_35 : decode cX8_forgets 35 = .ok (.aload_n 0, 1) := by decide +kernel
theorem dX8_forgets_36 : decode cX8_forgets 36 = .ok (.getfield 16, 3) := by decide +kernel
theorem dX8_forgets_39 : decode cX8_forgets 39 = .ok (.iconst 2, 1) := by decide +kernel
theorem dX8_forgets_40 : decode cX8_forgets 40 = .ok (.iconst 4, 1) := by decide +kernel
theorem dX8_forgets_41 : decode cX8_forgets 41 = .ok (.iastore, 1) := by decide +kernel
theorem dX8_forgets_42 : decode cX8_forgets 42 = .ok (.iconst 0, 1) := by decide +kernel
theorem dX8_forgets_43 : decode cX8_forgets 43 = .ok (.istore_n 3, 1) := by decide +kernel
theorem dX8_forgets_44 : decode cX8_forgets 44 = .ok (.iload_n 3, 1) := by decide +kernel
theorem dX8_forgets_45 : decode cX8_forgets 45 = .ok (.bipush 23, 2) := by decide +kernel
theorem dX8_forgets_47 : decode cX8_forgets 47 = .ok (.if_icmp .ge 21, 3) := by decide +kernel
theorem dX8_forgets_50 : decode cX8_forgets 50 = .ok (.aload_n 0, 1) := by decide +kernel
theorem dX8_forgets_51 : decode cX8_forgets 51 = .ok (.getfield 13, 3) := by decide +kernel
theorem dX8_forgets_54 : decode cX8_forgets 54 = .ok (.iload_n 3, 1) := by decide +kernel
theorem dX8_forgets_55 : decode cX8_forgets 55 = .ok (.aload_n 0, 1) := by decide +kernel
theorem dX8_forgets_56 : decode cX8_forgets 56 = .ok (.getfield 16, 3) := by decide +kernel
theorem dX8_forgets_59 : decode cX8_forgets 59 = .ok (.iload_n 3, 1) := by decide +kernel
theorem dX8_forgets_60 : decode cX8_forgets 60 = .ok (.iaload, 1) := by decide +kernel
theorem dX8_forgets_61 : decode cX8_forgets 61 = .ok (.iastore, 1) := by decide +kernel
theorem dX8_forgets_62 : decode cX8_forgets 62 = .ok (.iinc 3 1, 3) := by decide +kernel
theorem dX8_forgets_65 : decode cX8_forgets 65 = .ok (.goto (-21), 3) := by decide +kernel
theorem dX8_forgets_68 : decode cX8_forgets 68 = .ok (.return_, 1) := by decide +kernel
set_option maxRecDepth 20000 in
theorem ggX8_readsGround_X8_number : GoodIn wsX8_readsGround wsX8_number := goodIn_r _ [7, 8, 1, 9, 10, 11, 6, 12, 13, 14, 15, 16, 17, 18, 19, 20, 21, 22, 23, 24, 25, 26, 27, 28, 29, 30, 31, 32, 33, 34, 35, 36, 37, 38, 39, 40, 41, 42, 43, 44, 45] (by decide +kernel) (by decide +kernel)
set_option maxRecDepth 20000 in
theorem gX8_readsGround_X8_number : GoodIn wsX8_readsGround (wsV RX8 79 RX8 yX8_number wsX8_number) := goodIn_app (goodIn_of _ (by decide +kernel)) ggX8_readsGround_X8_number
theorem dX8_readsGround_0 : decode cX8_readsGround 0 = .ok (.aload_n 0, 1) := by decide +kernel
theorem dX8_readsGround_1 : decode cX8_readsGround 1 = .ok (.iconst 2, 1) := by decide +kernel
theorem dX8_readsGround_2 : decode cX8_readsGround 2 = .ok (.bipush 6, 2) := by decide +kernel
theorem dX8_readsGround_4 : decode cX8_readsGround 4 = .ok (.invokevirtual 79, 3) := by decide +kernel
theorem dX8_readsGround_7 : decode cX8_readsGround 7 = .ok (.ifCond .ne 5, 3) := by decide +kernel
theorem dX8_readsGround_10 : decode cX8_readsGround 10 = .ok (.iconst 0, 1) := by decide +kernel
theorem dX8_readsGround_11 : decode cX8_readsGround 11 = .ok (.ireturn, 1) := by decide +kernel
theorem dX8_readsGround_12 : decode cX8_readsGround 12 = .ok (.aload_n 0, 1) := by decide +kernel
theorem dX8_readsGround_13 : decode cX8_readsGround 13 = .ok (.getfield 73, 3) := by decide +kernel
theorem dX8_readsGround_16 : decode cX8_readsGround 16 = .ok (.istore_n 1, 1) := by decide +kernel
theorem dX8_readsGround_17 : decode cX8_readsGround 17 = .ok (.aload_n 0, 1) := by decide +kernel
theorem dX8_readsGround_18 : decode cX8_readsGround 18 = .ok (.iconst 2, 1) := by decide +kernel
theorem dX8_readsGround_19 : decode cX8_readsGround 19 = .ok (.bipush 6, 2) := by decide +kernel
theorem dX8_readsGround_21 : decode cX8_readsGround 21 = .ok (.invokevirtual 79, 3) := by decide +kernel
theorem dX8_readsGround_24 : decode cX8_readsGround 24 = .ok (.ifCond .ne 5, 3) := by decide +kernel
theorem dX8_readsGround_27 : decode cX8_readsGround 27 = .ok (.iconst 0, 1) := by decide +kernel
theorem dX8_readsGround_28 : decode cX8_readsGround 28 = .ok (.ireturn, 1) := by decide +kernel
theorem dX8_readsGround_29 : decode cX8_readsGround 29 = .ok (.iconst 0, 1) := by decide +kernel
theorem dX8_readsGround_30 : decode cX8_readsGround 30 = .ok (.istore_n 2, 1) := by decide +kernel
theorem dX8_readsGround_31 : decode cX8_readsGround 31 = .ok (.iload_n 2, 1) := by decide +kernel
theorem dX8_readsGround_32 : decode cX8_readsGround 32 = .ok (.bipush 23, 2) := by decide +kernel
theorem dX8_readsGround_34 : decode cX8_readsGround 34 = .ok (.if_icmp .ge 16, 3) := by decide +kernel
theorem dX8_readsGround_37 : decode cX8_readsGround 37 = .ok (.aload_n 0, 1) := by decide +kernel
theorem dX8_readsGround_38 : decode cX8_readsGround 38 = .ok (.getfield 16, 3) := by decide +kernel
theorem dX8_readsGround_41 : decode cX8_readsGround 41 = .ok (.iload_n 2, 1) := by decide +kernel
theorem dX8_readsGround_42 : decode cX8_readsGround 42 = .ok (.iconst 0, 1) := by decide +kernel
theorem dX8_readsGround_43 : decode cX8_readsGround 43 = .ok (.iastore, 1) := by decide +kernel
theorem dX8_readsGround_44 : decode cX8_readsGround 44 = .ok (.iinc 2 1, 3) := by decide +kernel
theorem dX8_readsGround_47 : decode cX8_readsGround 47 = .ok (.goto (-16), 3) := by decide +kernel
theorem dX8_readsGround_50 : decode cX8_readsGround 50 = .ok (.aload_n 0, 1) := by decide +kernel
theorem dX8_readsGround_51 : decode cX8_readsGround 51 = .ok (.getfield 16, 3) := by decide +kernel
theorem dX8_readsGround_54 : decode cX8_readsGround 54 = .ok (.iconst 0, 1) := by decide +kernel
theorem dX8_readsGround_55 : decode cX8_readsGround 55 = .ok (.iload_n 1, 1) := by decide +kernel
theorem dX8_readsGround_56 : decode cX8_readsGround 56 = .ok (.iastore, 1) := by decide +kernel
theorem dX8_readsGround_57 : decode cX8_readsGround 57 = .ok (.aload_n 0, 1) := by decide +kernel
theorem dX8_readsGround_58 : decode cX8_readsGround 58 = .ok (.getfield 16, 3) := by decide +kernel
theorem dX8_readsGround_61 : decode cX8_readsGround 61 = .ok (.iconst 1, 1) := by decide +kernel
theorem dX8_readsGround_62 : decode cX8_readsGround 62 = .ok (.aload_n 0, 1) := by decide +kernel
theorem dX8_readsGround_63 : decode cX8_readsGround 63 = .ok (.getfield 73, 3) := by decide +kernel
theorem dX8_readsGround_66 : decode cX8_readsGround 66 = .ok (.iastore, 1) := by decide +kernel
theorem dX8_readsGround_67 : decode cX8_readsGround 67 = .ok (.aload_n 0, 1) := by decide +kernel
theorem dX8_readsGround_68 : decode cX8_readsGround 68 = .ok (.getfield 16, 3) := by decide +kernel
theorem dX8_readsGround_71 : decode cX8_readsGround 71 = .ok (.iconst 2, 1) := by decide +kernel
theorem dX8_readsGround_72 : decode cX8_readsGround 72 = .ok (.iconst 4, 1) := by decide +kernel
theorem dX8_readsGround_73 : decode cX8_readsGround 73 = .ok (.iastore, 1) := by decide +kernel
theorem dX8_readsGround_74 : decode cX8_readsGround 74 = .ok (.iconst 1, 1) := by decide +kernel
theorem dX8_readsGround_75 : decode cX8_readsGround 75 = .ok (.ireturn, 1) := by decide +kernel
set_option maxRecDepth 20000 in
theorem ggX8_readsStand_X8_number : GoodIn wsX8_readsStand wsX8_number := goodIn_r _ [7, 8, 2, 9, 10, 11, 6, 12, 13, 14, 15, 16, 17, 18, 19, 20, 21, 22, 23, 24, 25, 26, 27, 28, 29, 30, 31, 32, 33, 34, 35, 36, 37, 38, 39, 40, 41, 42, 43, 44, 45] (by decide +kernel) (by decide +kernel)
set_option maxRecDepth 20000 in
theorem gX8_readsStand_X8_number : GoodIn wsX8_readsStand (wsV RX8 79 RX8 yX8_number wsX8_number) := goodIn_app (goodIn_of _ (by decide +kernel)) ggX8_readsStand_X8_number
theorem dX8_readsStand_0 : decode cX8_readsStand 0 = .ok (.aload_n 0, 1) := by decide +kernel
theorem dX8_readsStand_1 : decode cX8_readsStand 1 = .ok (.iconst 0, 1) := by decide +kernel
theorem dX8_readsStand_2 : decode cX8_readsStand 2 = .ok (.aload_n 0, 1) := by decide +kernel
theorem dX8_readsStand_3 : decode cX8_readsStand 3 = .ok (.getfield 16, 3) := by decide +kernel
theorem dX8_readsStand_6 : decode cX8_readsStand 6 = .ok (.iconst 0, 1) := by decide +kernel
theorem dX8_readsStand_7 : decode cX8_readsStand 7 = .ok (.iaload, 1) := by decide +kernel
theorem dX8_readsStand_8 : decode cX8_readsStand 8 = .ok (.aload_n 0, 1) := by decide +kernel
theorem dX8_readsStand_9 : decode cX8_readsStand 9 = .ok (.getfield 16, 3) := by decide +kernel
theorem dX8_readsStand_12 : decode cX8_readsStand 12 = .ok (.iconst 1, 1) := by decide +kernel
theorem dX8_readsStand_13 : decode cX8_readsStand 13 = .ok (.iaload, 1) := by decide +kernel
theorem dX8_readsStand_14 : decode cX8_readsStand 14 = .ok (.imul, 1) := by decide +kernel
theorem dX8_readsStand_15 : decode cX8_readsStand 15 = .ok (.iconst 1, 1) := by decide +kernel
theorem dX8_readsStand_16 : decode cX8_readsStand 16 = .ok (.isub, 1) := by decide +kernel
theorem dX8_readsStand_17 : decode cX8_readsStand 17 = .ok (.invokevirtual 79, 3) := by decide +kernel
theorem dX8_readsStand_20 : decode cX8_readsStand 20 = .ok (.ifCond .ne 5, 3) := by decide +kernel
theorem dX8_readsStand_23 : decode cX8_readsStand 23 = .ok (.iconst 0, 1) := by decide +kernel
theorem dX8_readsStand_24 : decode cX8_readsStand 24 = .ok (.ireturn, 1) := by decide +kernel
theorem dX8_readsStand_25 : decode cX8_readsStand 25 = .ok (.aload_n 0, 1) := by decide +kernel
theorem dX8_readsStand_26 : decode cX8_readsStand 26 = .ok (.getfield 16, 3) := by decide +kernel
theorem dX8_readsStand_29 : decode cX8_readsStand 29 = .ok (.iconst 3, 1) := by decide +kernel
theorem dX8_readsStand_30 : decode cX8_readsStand 30 = .ok (.aload_n 0, 1) := by decide +kernel
theorem dX8_readsStand_31 : decode cX8_readsStand 31 = .ok (.getfield 73, 3) := by decide +kernel
theorem dX8_readsStand_34 : decode cX8_readsStand 34 = .ok (.iastore, 1) := by decide +kernel
theorem dX8_readsStand_35 : decode cX8_readsStand 35 = .ok (.aload_n 0, 1) := by decide +kernel
theorem dX8_readsStand_36 : decode cX8_readsStand 36 = .ok (.iconst 0, 1) := by decide +kernel
theorem dX8_readsStand_37 : decode cX8_readsStand 37 = .ok (.iconst 3, 1) := by decide +kernel
theorem dX8_readsStand_38 : decode cX8_readsStand 38 = .ok (.invokevirtual 79, 3) := by decide +kernel
theorem dX8_readsStand_41 : decode cX8_readsStand 41 = .ok (.istore_n 1, 1) := by decide +kernel
theorem dX8_readsStand_42 : decode cX8_readsStand 42 = .ok (.aload_n 0, 1) := by decide +kernel
theorem dX8_readsStand_43 : decode cX8_readsStand 43 = .ok (.getfield 16, 3) := by decide +kernel
theorem dX8_readsStand_46 : decode cX8_readsStand 46 = .ok (.iconst 4, 1) := by decide +kernel
theorem dX8_readsStand_47 : decode cX8_readsStand 47 = .ok (.aload_n 0, 1) := by decide +kernel
theorem dX8_readsStand_48 : decode cX8_readsStand 48 = .ok (.getfield 73, 3) := by decide +kernel
theorem dX8_readsStand_51 : decode cX8_readsStand 51 = .ok (.iastore, 1) := by decide +kernel
theorem dX8_readsStand_52 : decode cX8_readsStand 52 = .ok (.iload_n 1, 1) := by decide +kernel
theorem dX8_readsStand_53 : decode cX8_readsStand 53 = .ok (.ireturn, 1) := by decide +kernel
set_option maxRecDepth 20000 in
theorem ggX8_readsFigure_X8_number : GoodIn wsX8_readsFigure wsX8_number := goodIn_r _ [7, 8, 2, 9, 10, 11, 6, 12, 13, 14, 15, 16, 17, 18, 19, 20, 21, 22, 23, 24, 25, 26, 27, 28, 29, 30, 31, 32, 33, 34, 35, 36, 37, 38, 39, 40, 41, 42, 43, 44, 45] (by decide +kernel) (by decide +kernel)
set_option maxRecDepth 20000 in
theorem gX8_readsFigure_X8_number : GoodIn wsX8_readsFigure (wsV RX8 79 RX8 yX8_number wsX8_number) := goodIn_app (goodIn_of _ (by decide +kernel)) ggX8_readsFigure_X8_number
theorem dX8_readsFigure_0 : decode cX8_readsFigure 0 = .ok (.aload_n 0, 1) := by decide +kernel
theorem dX8_readsFigure_1 : decode cX8_readsFigure 1 = .ok (.iconst 0, 1) := by decide +kernel
theorem dX8_readsFigure_2 : decode cX8_readsFigure 2 = .ok (.iconst 1, 1) := by decide +kernel
theorem dX8_readsFigure_3 : decode cX8_readsFigure 3 = .ok (.invokevirtual 79, 3) := by decide +kernel
theorem dX8_readsFigure_6 : decode cX8_readsFigure 6 = .ok (.ifCond .eq 19, 3) := by decide +kernel
theorem dX8_readsFigure_9 : decode cX8_readsFigure 9 = .ok (.aload_n 0, 1) := by decide +kernel
theorem dX8_readsFigure_10 : decode cX8_readsFigure 10 = .ok (.getfield 16, 3) := by decide +kernel
theorem dX8_readsFigure_13 : decode cX8_readsFigure 13 = .ok (.iconst 5, 1) := by decide +kernel
theorem dX8_readsFigure_14 : decode cX8_readsFigure 14 = .ok (.aload_n 0, 1) := by decide +kernel
theorem dX8_readsFigure_15 : decode cX8_readsFigure 15 = .ok (.getfield 73, 3) := by decide +kernel
theorem dX8_readsFigure_18 : decode cX8_readsFigure 18 = .ok (.iadd, 1) := by decide +kernel
theorem dX8_readsFigure_19 : decode cX8_readsFigure 19 = .ok (.iaload, 1) := by decide +kernel
theorem dX8_readsFigure_20 : decode cX8_readsFigure 20 = .ok (.bipush 8, 2) := by decide +kernel
theorem dX8_readsFigure_22 : decode cX8_readsFigure 22 = .ok (.if_icmp .ne 5, 3) := by decide +kernel
theorem dX8_readsFigure_25 : decode cX8_readsFigure 25 = .ok (.iconst 0, 1) := by decide +kernel
theorem dX8_readsFigure_26 : decode cX8_readsFigure 26 = .ok (.ireturn, 1) := by decide +kernel
theorem dX8_readsFigure_27 : decode cX8_readsFigure 27 = .ok (.aload_n 0, 1) := by decide +kernel
theorem dX8_readsFigure_28 : decode cX8_readsFigure 28 = .ok (.getfield 73, 3) := by decide +kernel
theorem dX8_readsFigure_31 : decode cX8_readsFigure 31 = .ok (.istore_n 2, 1) := by decide +kernel
theorem dX8_readsFigure_32 : decode cX8_readsFigure 32 = .ok (.aload_n 0, 1) := by decide +kernel
theorem dX8_readsFigure_33 : decode cX8_readsFigure 33 = .ok (.iconst 1, 1) := by decide +kernel
theorem dX8_readsFigure_34 : decode cX8_readsFigure 34 = .ok (.bipush 9, 2) := by decide +kernel
theorem dX8_readsFigure_36 : decode cX8_readsFigure 36 = .ok (.invokevirtual 79, 3) := by decide +kernel
theorem dX8_readsFigure_39 : decode cX8_readsFigure 39 = .ok (.ifCond .ne 5, 3) := by decide +kernel
theorem dX8_readsFigure_42 : decode cX8_readsFigure 42 = .ok (.iconst 0, 1) := by decide +kernel
theorem dX8_readsFigure_43 : decode cX8_readsFigure 43 = .ok (.ireturn, 1) := by decide +kernel
theorem dX8_readsFigure_44 : decode cX8_readsFigure 44 = .ok (.aload_n 0, 1) := by decide +kernel
theorem dX8_readsFigure_45 : decode cX8_readsFigure 45 = .ok (.getfield 16, 3) := by decide +kernel
theorem dX8_readsFigure_48 : decode cX8_readsFigure 48 = .ok (.bipush 7, 2) := by decide +kernel
theorem dX8_readsFigure_50 : decode cX8_readsFigure 50 = .ok (.bipush 8, 2) := by decide +kernel
theorem dX8_readsFigure_52 : decode cX8_readsFigure 52 = .ok (.iload_n 2, 1) := by decide +kernel
theorem dX8_readsFigure_53 : decode cX8_readsFigure 53 = .ok (.imul, 1) := by decide +kernel
theorem dX8_readsFigure_54 : decode cX8_readsFigure 54 = .ok (.iadd, 1) := by decide +kernel
theorem dX8_readsFigure_55 : decode cX8_readsFigure 55 = .ok (.aload_n 0, 1) := by decide +kernel
theorem dX8_readsFigure_56 : decode cX8_readsFigure 56 = .ok (.getfield 16, 3) := by decide +kernel
theorem dX8_readsFigure_59 : decode cX8_readsFigure 59 = .ok (.iconst 5, 1) := by decide +kernel
theorem dX8_readsFigure_60 : decode cX8_readsFigure 60 = .ok (.iload_n 2, 1) := by decide +kernel
theorem dX8_readsFigure_61 : decode cX8_readsFigure 61 = .ok (.iadd, 1) := by decide +kernel
theorem dX8_readsFigure_62 : decode cX8_readsFigure 62 = .ok (.iaload, 1) := by decide +kernel
theorem dX8_readsFigure_63 : decode cX8_readsFigure 63 = .ok (.iadd, 1) := by decide +kernel
theorem dX8_readsFigure_64 : decode cX8_readsFigure 64 = .ok (.bipush 10, 2) := by decide +kernel
theorem dX8_readsFigure_66 : decode cX8_readsFigure 66 = .ok (.iload_n 1, 1) := by decide +kernel
theorem dX8_readsFigure_67 : decode cX8_readsFigure 67 = .ok (.imul, 1) := by decide +kernel
theorem dX8_readsFigure_68 : decode cX8_readsFigure 68 = .ok (.aload_n 0, 1) := by decide +kernel
theorem dX8_readsFigure_69 : decode cX8_readsFigure 69 = .ok (.getfield 73, 3) := by decide +kernel
theorem dX8_readsFigure_72 : decode cX8_readsFigure 72 = .ok (.iadd, 1) := by decide +kernel
theorem dX8_readsFigure_73 : decode cX8_readsFigure 73 = .ok (.iastore, 1) := by decide +kernel
theorem dX8_readsFigure_74 : decode cX8_readsFigure 74 = .ok (.aload_n 0, 1) := by decide +kernel
theorem dX8_readsFigure_75 : decode cX8_readsFigure 75 = .ok (.getfield 16, 3) := by decide +kernel
theorem dX8_readsFigure_78 : decode cX8_readsFigure 78 = .ok (.iconst 5, 1) := by decide +kernel
theorem dX8_readsFigure_79 : decode cX8_readsFigure 79 = .ok (.iload_n 2, 1) := by decide +kernel
theorem dX8_readsFigure_80 : decode cX8_readsFigure 80 = .ok (.iadd, 1) := by decide +kernel
theorem dX8_readsFigure_81 : decode cX8_readsFigure 81 = .ok (.dup2, 1) := by decide +kernel
theorem dX8_readsFigure_82 : decode cX8_readsFigure 82 = .ok (.iaload, 1) := by decide +kernel
theorem dX8_readsFigure_83 : decode cX8_readsFigure 83 = .ok (.iconst 1, 1) := by decide +kernel
theorem dX8_readsFigure_84 : decode cX8_readsFigure 84 = .ok (.iadd, 1) := by decide +kernel
theorem dX8_readsFigure_85 : decode cX8_readsFigure 85 = .ok (.iastore, 1) := by decide +kernel
theorem dX8_readsFigure_86 : decode cX8_readsFigure 86 = .ok (.iconst 1, 1) := by decide +kernel
theorem dX8_readsFigure_87 : decode cX8_readsFigure 87 = .ok (.ireturn, 1) := by decide +kernel
set_option maxRecDepth 20000 in
theorem ggX8_readsRest_X8_number : GoodIn wsX8_readsRest wsX8_number := goodIn_r _ [7, 8, 2, 9, 10, 11, 6, 12, 13, 14, 15, 16, 17, 18, 19, 20, 21, 22, 23, 24, 25, 26, 27, 28, 29, 30, 31, 32, 33, 34, 35, 36, 37, 38, 39, 40, 41, 42, 43, 44, 45] (by decide +kernel) (by decide +kernel)
set_option maxRecDepth 20000 in
theorem gX8_readsRest_X8_number : GoodIn wsX8_readsRest (wsV RX8 79 RX8 yX8_number wsX8_number) := goodIn_app (goodIn_of _ (by decide +kernel)) ggX8_readsRest_X8_number
theorem dX8_readsRest_0 : decode cX8_readsRest 0 = .ok (.aload_n 0, 1) := by decide +kernel
theorem dX8_readsRest_1 : decode cX8_readsRest 1 = .ok (.iconst 0, 1) := by decide +kernel
theorem dX8_readsRest_2 : decode cX8_readsRest 2 = .ok (.iconst 1, 1) := by decide +kernel
theorem dX8_readsRest_3 : decode cX8_readsRest 3 = .ok (.invokevirtual 79, 3) := by decide +kernel
theorem dX8_readsRest_6 : decode cX8_readsRest 6 = .ok (.ifCond .ne 5, 3) := by decide +kernel
theorem dX8_readsRest_9 : decode cX8_readsRest 9 = .ok (.iconst 0, 1) := by decide +kernel
theorem dX8_readsRest_10 : decode cX8_readsRest 10 = .ok (.ireturn, 1) := by decide +kernel
theorem dX8_readsRest_11 : decode cX8_readsRest 11 = .ok (.aload_n 0, 1) := by decide +kernel
theorem dX8_readsRest_12 : decode cX8_readsRest 12 = .ok (.getfield 16, 3) := by decide +kernel
theorem dX8_readsRest_15 : decode cX8_readsRest 15 = .ok (.iconst 5, 1) := by decide +kernel
theorem dX8_readsRest_16 : decode cX8_readsRest 16 = .ok (.aload_n 0, 1) := by decide +kernel
theorem dX8_readsRest_17 : decode cX8_readsRest 17 = .ok (.getfield 73, 3) := by decide +kernel
theorem dX8_readsRest_20 : decode cX8_readsRest 20 = .ok (.iadd, 1) := by decide +kernel
theorem dX8_readsRest_21 : decode cX8_readsRest 21 = .ok (.iconst 0, 1) := by decide +kernel
theorem dX8_readsRest_22 : decode cX8_readsRest 22 = .ok (.iastore, 1) := by decide +kernel
theorem dX8_readsRest_23 : decode cX8_readsRest 23 = .ok (.iconst 1, 1) := by decide +kernel
theorem dX8_readsRest_24 : decode cX8_readsRest 24 = .ok (.ireturn, 1) := by decide +kernel
set_option maxRecDepth 20000 in
theorem ggX8_readsClause_X8_isWord : GoodIn wsX8_readsClause wsX8_isWord := goodIn_r _ [7, 8, 9, 10, 11, 50, 51, 52, 53, 54, 55, 56, 57, 58, 59, 60, 61, 62, 63, 64, 65] (by decide +kernel) (by decide +kernel)
set_option maxRecDepth 20000 in
theorem gX8_readsClause_X8_isWord : GoodIn wsX8_readsClause (wsV RX8 83 RX8 yX8_isWord wsX8_isWord) := goodIn_app (goodIn_of _ (by decide +kernel)) ggX8_readsClause_X8_isWord
set_option maxRecDepth 20000 in
theorem ggX8_readsClause_X8_readsGround : GoodIn wsX8_readsClause wsX8_readsGround := goodIn_r _ [15, 2, 1, 16, 17, 18, 6, 19, 8, 20, 21, 22, 23, 9, 10, 11, 24, 25, 26, 27, 28, 29, 30, 31, 32, 33, 34, 35, 36, 37, 50, 51, 52, 53, 54, 55, 56, 57, 58, 59, 60, 61, 62, 63, 64, 65] (by decide +kernel) (by decide +kernel)
set_option maxRecDepth 20000 in
theorem gX8_readsClause_X8_readsGround : GoodIn wsX8_readsClause (wsV RX8 87 RX8 yX8_readsGround wsX8_readsGround) := goodIn_app (goodIn_of _ (by decide +kernel)) ggX8_readsClause_X8_readsGround
set_option maxRecDepth 20000 in
theorem ggX8_readsClause_X8_readsStand : GoodIn wsX8_readsClause wsX8_readsStand := goodIn_r _ [41, 1, 2, 16, 17, 18, 6, 19, 8, 20, 21, 22, 23, 9, 10, 11, 24, 25, 26, 27, 28, 29, 30, 31, 32, 33, 34, 35, 36, 37, 50, 51, 52, 53, 54, 55, 56, 57, 58, 59, 60, 61, 62, 63, 64, 65] (by decide +kernel) (by decide +kernel)
set_option maxRecDepth 20000 in
theorem gX8_readsClause_X8_readsStand : GoodIn wsX8_readsClause (wsV RX8 91 RX8 yX8_readsStand wsX8_readsStand) := goodIn_app (goodIn_of _ (by decide +kernel)) ggX8_readsClause_X8_readsStand
set_option maxRecDepth 20000 in
theorem ggX8_readsClause_X8_number : GoodIn wsX8_readsClause wsX8_number := goodIn_r _ [19, 8, 2, 20, 21, 22, 6, 23, 9, 10, 11, 24, 25, 26, 27, 28, 29, 30, 31, 32, 33, 34, 35, 36, 37, 50, 51, 52, 53, 54, 55, 56, 57, 58, 59, 60, 61, 62, 63, 64, 65] (by decide +kernel) (by decide +kernel)
set_option maxRecDepth 20000 in
theorem gX8_readsClause_X8_number : GoodIn wsX8_readsClause (wsV RX8 79 RX8 yX8_number wsX8_number) := goodIn_app (goodIn_of _ (by decide +kernel)) ggX8_readsClause_X8_number
set_option maxRecDepth 20000 in
theorem ggX8_readsClause_X8_readsRest : GoodIn wsX8_readsClause wsX8_readsRest := goodIn_r _ [45, 1, 2, 16, 17, 18, 6, 19, 8, 20, 21, 22, 23, 9, 10, 11, 24, 25, 26, 27, 28, 29, 30, 31, 32, 33, 34, 35, 36, 37, 50, 51, 52, 53, 54, 55, 56, 57, 58, 59, 60, 61, 62, 63, 64, 65] (by decide +kernel) (by decide +kernel)
set_option maxRecDepth 20000 in
theorem gX8_readsClause_X8_readsRest : GoodIn wsX8_readsClause (wsV RX8 94 RX8 yX8_readsRest wsX8_readsRest) := goodIn_app (goodIn_of _ (by decide +kernel)) ggX8_readsClause_X8_readsRest
set_option maxRecDepth 20000 in
theorem ggX8_readsClause_X8_readsFigure : GoodIn wsX8_readsClause wsX8_readsFigure := goodIn_r _ [49, 1, 2, 16, 17, 18, 6, 19, 8, 20, 21, 22, 23, 9, 10, 11, 24, 25, 26, 27, 28, 29, 30, 31, 32, 33, 34, 35, 36, 37, 50, 51, 52, 53, 54, 55, 56, 57, 58, 59, 60, 61, 62, 63, 64, 65] (by decide +kernel) (by decide +kernel)
set_option maxRecDepth 20000 in
theorem gX8_readsClause_X8_readsFigure : GoodIn wsX8_readsClause (wsV RX8 97 RX8 yX8_readsFigure wsX8_readsFigure) := goodIn_app (goodIn_of _ (by decide +kernel)) ggX8_readsClause_X8_readsFigure
theorem dX8_readsClause_0 : decode cX8_readsClause 0 = .ok (.aload_n 0, 1) := by decide +kernel
theorem dX8_readsClause_1 : decode cX8_readsClause 1 = .ok (.bipush 103, 2) := by decide +kernel
theorem dX8_readsClause_3 : decode cX8_readsClause 3 = .ok (.bipush 114, 2) := by decide +kernel
theorem dX8_readsClause_5 : decode cX8_readsClause 5 = .ok (.bipush 111, 2) := by decide +kernel
theorem dX8_readsClause_7 : decode cX8_readsClause 7 = .ok (.bipush 117, 2) := by decide +kernel
theorem dX8_readsClause_9 : decode cX8_readsClause 9 = .ok (.bipush 110, 2) := by decide +kernel
theorem dX8_readsClause_11 : decode cX8_readsClause 11 = .ok (.bipush 100, 2) := by decide +kernel
theorem dX8_readsClause_13 : decode cX8_readsClause 13 = .ok (.invokevirtual 83, 3) := by decide +kernel
theorem dX8_readsClause_16 : decode cX8_readsClause 16 = .ok (.ifCond .eq 8, 3) := by decide +kernel
theorem dX8_readsClause_19 : decode cX8_readsClause 19 = .ok (.aload_n 0, 1) := by decide +kernel
theorem dX8_readsClause_20 : decode cX8_readsClause 20 = .ok (.invokevirtual 87, 3) := by decide +kernel
theorem dX8_readsClause_23 : decode cX8_readsClause 23 = .ok (.ireturn, 1) := by decide +kernel
theorem dX8_readsClause_24 : decode cX8_readsClause 24 = .ok (.aload_n 0, 1) := by decide +kernel
theorem dX8_readsClause_25 : decode cX8_readsClause 25 = .ok (.bipush 115, 2) := by decide +kernel
theorem dX8_readsClause_27 : decode cX8_readsClause 27 = .ok (.bipush 116, 2) := by decide +kernel
theorem dX8_readsClause_29 : decode cX8_readsClause 29 = .ok (.bipush 97, 2) := by decide +kernel
theorem dX8_readsClause_31 : decode cX8_readsClause 31 = .ok (.bipush 110, 2) := by decide +kernel
theorem dX8_readsClause_33 : decode cX8_readsClause 33 = .ok (.bipush 100, 2) := by decide +kernel
theorem dX8_readsClause_35 : decode cX8_readsClause 35 = .ok (.iconst 0, 1) := by decide +kernel
theorem dX8_readsClause_36 : decode cX8_readsClause 36 = .ok (.invokevirtual 83, 3) := by decide +kernel
theorem dX8_readsClause_39 : decode cX8_readsClause 39 = .ok (.ifCond .eq 8, 3) := by decide +kernel
theorem dX8_readsClause_42 : decode cX8_readsClause 42 = .ok (.aload_n 0, 1) := by decide +kernel
theorem dX8_readsClause_43 : decode cX8_readsClause 43 = .ok (.invokevirtual 91, 3) := by decide +kernel
theorem dX8_readsClause_46 : decode cX8_readsClause 46 = .ok (.ireturn, 1) := by decide +kernel
theorem dX8_readsClause_47 : decode cX8_readsClause 47 = .ok (.aload_n 0, 1) := by decide +kernel
theorem dX8_readsClause_48 : decode cX8_readsClause 48 = .ok (.bipush 104, 2) := by decide +kernel
theorem dX8_readsClause_50 : decode cX8_readsClause 50 = .ok (.bipush 111, 2) := by decide +kernel
theorem dX8_readsClause_52 : decode cX8_readsClause 52 = .ok (.bipush 117, 2) := by decide +kernel
theorem dX8_readsClause_54 : decode cX8_readsClause 54 = .ok (.bipush 114, 2) := by decide +kernel
theorem dX8_readsClause_56 : decode cX8_readsClause 56 = .ok (.iconst 0, 1) := by decide +kernel
theorem dX8_readsClause_57 : decode cX8_readsClause 57 = .ok (.iconst 0, 1) := by decide +kernel
theorem dX8_readsClause_58 : decode cX8_readsClause 58 = .ok (.invokevirtual 83, 3) := by decide +kernel
theorem dX8_readsClause_61 : decode cX8_readsClause 61 = .ok (.ifCond .eq 23, 3) := by decide +kernel
theorem dX8_readsClause_64 : decode cX8_readsClause 64 = .ok (.aload_n 0, 1) := by decide +kernel
theorem dX8_readsClause_65 : decode cX8_readsClause 65 = .ok (.iconst 2, 1) := by decide +kernel
theorem dX8_readsClause_66 : decode cX8_readsClause 66 = .ok (.bipush 9, 2) := by decide +kernel
theorem dX8_readsClause_68 : decode cX8_readsClause 68 = .ok (.invokevirtual 79, 3) := by decide +kernel
theorem dX8_readsClause_71 : decode cX8_readsClause 71 = .ok (.istore_n 1, 1) := by decide +kernel
theorem dX8_readsClause_72 : decode cX8_readsClause 72 = .ok (.aload_n 0, 1) := by decide +kernel
theorem dX8_readsClause_73 : decode cX8_readsClause 73 = .ok (.getfield 16, 3) := by decide +kernel
theorem dX8_readsClause_76 : decode cX8_readsClause 76 = .ok (.iconst 2, 1) := by decide +kernel
theorem dX8_readsClause_77 : decode cX8_readsClause 77 = .ok (.aload_n 0, 1) := by decide +kernel
theorem dX8_readsClause_78 : decode cX8_readsClause 78 = .ok (.getfield 73, 3) := by decide +kernel
theorem dX8_readsClause_81 : decode cX8_readsClause 81 = .ok (.iastore, 1) := by decide +kernel
theorem dX8_readsClause_82 : decode cX8_readsClause 82 = .ok (.iload_n 1, 1) := by decide +kernel
theorem dX8_readsClause_83 : decode cX8_readsClause 83 = .ok (.ireturn, 1) := by decide +kernel
theorem dX8_readsClause_84 : decode cX8_readsClause 84 = .ok (.aload_n 0, 1) := by decide +kernel
theorem dX8_readsClause_85 : decode cX8_readsClause 85 = .ok (.bipush 114, 2) := by decide +kernel
theorem dX8_readsClause_87 : decode cX8_readsClause 87 = .ok (.bipush 101, 2) := by decide +kernel
theorem dX8_readsClause_89 : decode cX8_readsClause 89 = .ok (.bipush 115, 2) := by decide +kernel
theorem dX8_readsClause_91 : decode cX8_readsClause 91 = .ok (.bipush 116, 2) := by decide +kernel
theorem dX8_readsClause_93 : decode cX8_readsClause 93 = .ok (.iconst 0, 1) := by decide +kernel
theorem dX8_readsClause_94 : decode cX8_readsClause 94 = .ok (.iconst 0, 1) := by decide +kernel
theorem dX8_readsClause_95 : decode cX8_readsClause 95 = .ok (.invokevirtual 83, 3) := by decide +kernel
theorem dX8_readsClause_98 : decode cX8_readsClause 98 = .ok (.ifCond .eq 8, 3) := by decide +kernel
theorem dX8_readsClause_101 : decode cX8_readsClause 101 = .ok (.aload_n 0, 1) := by decide +kernel
theorem dX8_readsClause_102 : decode cX8_readsClause 102 = .ok (.invokevirtual 94, 3) := by decide +kernel
theorem dX8_readsClause_105 : decode cX8_readsClause 105 = .ok (.ireturn, 1) := by decide +kernel
theorem dX8_readsClause_106 : decode cX8_readsClause 106 = .ok (.aload_n 0, 1) := by decide +kernel
theorem dX8_readsClause_107 : decode cX8_readsClause 107 = .ok (.bipush 109, 2) := by decide +kernel
theorem dX8_readsClause_109 : decode cX8_readsClause 109 = .ok (.bipush 97, 2) := by decide +kernel
theorem dX8_readsClause_111 : decode cX8_readsClause 111 = .ok (.bipush 114, 2) := by decide +kernel
theorem dX8_readsClause_113 : decode cX8_readsClause 113 = .ok (.bipush 99, 2) := by decide +kernel
theorem dX8_readsClause_115 : decode cX8_readsClause 115 = .ok (.bipush 104, 2) := by decide +kernel
theorem dX8_readsClause_117 : decode cX8_readsClause 117 = .ok (.iconst 0, 1) := by decide +kernel
theorem dX8_readsClause_118 : decode cX8_readsClause 118 = .ok (.invokevirtual 83, 3) := by decide +kernel
theorem dX8_readsClause_121 : decode cX8_readsClause 121 = .ok (.ifCond .eq 9, 3) := by decide +kernel
theorem dX8_readsClause_124 : decode cX8_readsClause 124 = .ok (.aload_n 0, 1) := by decide +kernel
theorem dX8_readsClause_125 : decode cX8_readsClause 125 = .ok (.iconst 0, 1) := by decide +kernel
theorem dX8_readsClause_126 : decode cX8_readsClause 126 = .ok (.invokevirtual 97, 3) := by decide +kernel
theorem dX8_readsClause_129 : decode cX8_readsClause 129 = .ok (.ireturn, 1) := by decide +kernel
theorem dX8_readsClause_130 : decode cX8_readsClause 130 = .ok (.aload_n 0, 1) := by decide +kernel
theorem dX8_readsClause_131 : decode cX8_readsClause 131 = .ok (.bipush 98, 2) := by decide +kernel
theorem dX8_readsClause_133 : decode cX8_readsClause 133 = .ok (.bipush 97, 2) := by decide +kernel
theorem dX8_readsClause_135 : decode cX8_readsClause 135 = .ok (.bipush 99, 2) := by decide +kernel
theorem dX8_readsClause_137 : decode cX8_readsClause 137 = .ok (.bipush 107, 2) := by decide +kernel
theorem dX8_readsClause_139 : decode cX8_readsClause 139 = .ok (.iconst 0, 1) := by decide +kernel
theorem dX8_readsClause_140 : decode cX8_readsClause 140 = .ok (.iconst 0, 1) := by decide +kernel
theorem dX8_readsClause_141 : decode cX8_readsClause 141 = .ok (.invokevirtual 83, 3) := by decide +kernel
theorem dX8_readsClause_144 : decode cX8_readsClause 144 = .ok (.ifCond .eq 9, 3) := by decide +kernel
theorem dX8_readsClause_147 : decode cX8_readsClause 147 = .ok (.aload_n 0, 1) := by decide +kernel
theorem dX8_readsClause_148 : decode cX8_readsClause 148 = .ok (.iconst 1, 1) := by decide +kernel
theorem dX8_readsClause_149 : decode cX8_readsClause 149 = .ok (.invokevirtual 97, 3) := by decide +kernel
theorem dX8_readsClause_152 : decode cX8_readsClause 152 = .ok (.ireturn, 1) := by decide +kernel
theorem dX8_readsClause_153 : decode cX8_readsClause 153 = .ok (.aload_n 0, 1) := by decide +kernel
theorem dX8_readsClause_154 : decode cX8_readsClause 154 = .ok (.bipush 100, 2) := by decide +kernel
theorem dX8_readsClause_156 : decode cX8_readsClause 156 = .ok (.bipush 111, 2) := by decide +kernel
theorem dX8_readsClause_158 : decode cX8_readsClause 158 = .ok (.bipush 117, 2) := by decide +kernel
theorem dX8_readsClause_160 : decode cX8_readsClause 160 = .ok (.bipush 98, 2) := by decide +kernel
theorem dX8_readsClause_162 : decode cX8_readsClause 162 = .ok (.bipush 108, 2) := by decide +kernel
theorem dX8_readsClause_164 : decode cX8_readsClause 164 = .ok (.bipush 101, 2) := by decide +kernel
theorem dX8_readsClause_166 : decode cX8_readsClause 166 = .ok (.invokevirtual 83, 3) := by decide +kernel
theorem dX8_readsClause_169 : decode cX8_readsClause 169 = .ok (.ifCond .eq 9, 3) := by decide +kernel
theorem dX8_readsClause_172 : decode cX8_readsClause 172 = .ok (.aload_n 0, 1) := by decide +kernel
theorem dX8_readsClause_173 : decode cX8_readsClause 173 = .ok (.iconst 2, 1) := by decide +kernel
theorem dX8_readsClause_174 : decode cX8_readsClause 174 = .ok (.invokevirtual 97, 3) := by decide +kernel
theorem dX8_readsClause_177 : decode cX8_readsClause 177 = .ok (.ireturn, 1) := by decide +kernel
theorem dX8_readsClause_178 : decode cX8_readsClause 178 = .ok (.aload_n 0, 1) := by decide +kernel
theorem dX8_readsClause_179 : decode cX8_readsClause 179 = .ok (.bipush 116, 2) := by decide +kernel
theorem dX8_readsClause_181 : decode cX8_readsClause 181 = .ok (.bipush 117, 2) := by decide +kernel
theorem dX8_readsClause_183 : decode cX8_readsClause 183 = .ok (.bipush 114, 2) := by decide +kernel
theorem dX8_readsClause_185 : decode cX8_readsClause 185 = .ok (.bipush 110, 2) := by decide +kernel
theorem dX8_readsClause_187 : decode cX8_readsClause 187 = .ok (.iconst 0, 1) := by decide +kernel
theorem dX8_readsClause_188 : decode cX8_readsClause 188 = .ok (.iconst 0, 1) := by decide +kernel
theorem dX8_readsClause_189 : decode cX8_readsClause 189 = .ok (.invokevirtual 83, 3) := by decide +kernel
theorem dX8_readsClause_192 : decode cX8_readsClause 192 = .ok (.ifCond .eq 9, 3) := by decide +kernel
theorem dX8_readsClause_195 : decode cX8_readsClause 195 = .ok (.aload_n 0, 1) := by decide +kernel
theorem dX8_readsClause_196 : decode cX8_readsClause 196 = .ok (.iconst 3, 1) := by decide +kernel
theorem dX8_readsClause_197 : decode cX8_readsClause 197 = .ok (.invokevirtual 97, 3) := by decide +kernel
theorem dX8_readsClause_200 : decode cX8_readsClause 200 = .ok (.ireturn, 1) := by decide +kernel
theorem dX8_readsClause_201 : decode cX8_readsClause 201 = .ok (.aload_n 0, 1) := by decide +kernel
theorem dX8_readsClause_202 : decode cX8_readsClause 202 = .ok (.bipush 107, 2) := by decide +kernel
theorem dX8_readsClause_204 : decode cX8_readsClause 204 = .ok (.bipush 110, 2) := by decide +kernel
theorem dX8_readsClause_206 : decode cX8_readsClause 206 = .ok (.bipush 101, 2) := by decide +kernel
theorem dX8_readsClause_208 : decode cX8_readsClause 208 = .ok (.bipush 101, 2) := by decide +kernel
theorem dX8_readsClause_210 : decode cX8_readsClause 210 = .ok (.bipush 108, 2) := by decide +kernel
theorem dX8_readsClause_212 : decode cX8_readsClause 212 = .ok (.iconst 0, 1) := by decide +kernel
theorem dX8_readsClause_213 : decode cX8_readsClause 213 = .ok (.invokevirtual 83, 3) := by decide +kernel
theorem dX8_readsClause_216 : decode cX8_readsClause 216 = .ok (.ifCond .eq 15, 3) := by decide +kernel
theorem dX8_readsClause_219 : decode cX8_readsClause 219 = .ok (.aload_n 0, 1) := by decide +kernel
theorem dX8_readsClause_220 : decode cX8_readsClause 220 = .ok (.iconst 4, 1) := by decide +kernel
theorem dX8_readsClause_221 : decode cX8_readsClause 221 = .ok (.invokevirtual 97, 3) := by decide +kernel
theorem dX8_readsClause_224 : decode cX8_readsClause 224 = .ok (.ifCond .eq 7, 3) := by decide +kernel
theorem dX8_readsClause_227 : decode cX8_readsClause 227 = .ok (.iconst 1, 1) := by decide +kernel
theorem dX8_readsClause_228 : decode cX8_readsClause 228 = .ok (.goto 4, 3) := by decide +kernel
theorem dX8_readsClause_231 : decode cX8_readsClause 231 = .ok (.iconst 0, 1) := by decide +kernel
theorem dX8_readsClause_232 : decode cX8_readsClause 232 = .ok (.ireturn, 1) := by decide +kernel
set_option maxRecDepth 20000 in
theorem ggX8_reads_X8_token : GoodIn wsX8_reads wsX8_token := goodIn_r _ [11, 3, 6, 4, 12, 5, 13, 14, 15, 10, 16, 17, 18, 19, 20, 21, 22, 23, 24, 25, 26, 55, 56, 57, 58, 59, 60, 61, 62, 63, 64, 65, 66, 67, 68, 69, 70] (by decide +kernel) (by decide +kernel)
set_option maxRecDepth 20000 in
theorem gX8_reads_X8_token : GoodIn wsX8_reads (wsV RX8 76 RX8 yX8_token wsX8_token) := goodIn_app (goodIn_of _ (by decide +kernel)) ggX8_reads_X8_token
set_option maxRecDepth 20000 in
theorem ggX8_reads_X8_readsClause : GoodIn wsX8_reads wsX8_readsClause := goodIn_r _ [30, 1, 12, 31, 32, 33, 10, 34, 4, 3, 6, 5, 35, 36, 37, 38, 39, 40, 41, 42, 7, 8, 9, 11, 13, 14, 15, 16, 17, 18, 19, 20, 21, 22, 23, 24, 25, 26, 43, 44, 45, 46, 47, 48, 49, 50, 51, 52, 53, 54, 55, 56, 57, 58, 59, 60, 61, 62, 63, 64, 65, 66, 67, 68, 69, 70] (by decide +kernel) (by decide +kernel)
set_option maxRecDepth 20000 in
theorem gX8_reads_X8_readsClause : GoodIn wsX8_reads (wsV RX8 100 RX8 yX8_readsClause wsX8_readsClause) := goodIn_app (goodIn_of _ (by decide +kernel)) ggX8_reads_X8_readsClause
theorem dX8_reads_0 : decode cX8_reads 0 = .ok (.iconst 0, 1) := by decide +kernel
theorem dX8_reads_1 : decode cX8_reads 1 = .ok (.istore_n 1, 1) := by decide +kernel
theorem dX8_reads_2 : decode cX8_reads 2 = .ok (.iload_n 1, 1) := by decide +kernel
theorem dX8_reads_3 : decode cX8_reads 3 = .ok (.bipush 23, 2) := by decide +kernel
theorem dX8_reads_5 : decode cX8_reads 5 = .ok (.if_icmp .ge 21, 3) := by decide +kernel
theorem dX8_reads_8 : decode cX8_reads 8 = .ok (.aload_n 0, 1) := by decide +kernel
theorem dX8_reads_9 : decode cX8_reads 9 = .ok (.getfield 16, 3) := by decide +kernel
theorem dX8_reads_12 : decode cX8_reads 12 = .ok (.iload_n 1, 1) := by decide +kernel
theorem dX8_reads_13 : decode cX8_reads 13 = .ok (.aload_n 0, 1) := by decide +kernel
theorem dX8_reads_14 : decode cX8_reads 14 = .ok (.getfield 13, 3) := by decide +kernel
theorem dX8_reads_17 : decode cX8_reads 17 = .ok (.iload_n 1, 1) := by decide +kernel
theorem dX8_reads_18 : decode cX8_reads 18 = .ok (.iaload, 1) := by decide +kernel
theorem dX8_reads_19 : decode cX8_reads 19 = .ok (.iastore, 1) := by decide +kernel
theorem dX8_reads_20 : decode cX8_reads 20 = .ok (.iinc 1 1, 3) := by decide +kernel
theorem dX8_reads_23 : decode cX8_reads 23 = .ok (.goto (-21), 3) := by decide +kernel
theorem dX8_reads_26 : decode cX8_reads 26 = .ok (.aload_n 0, 1) := by decide +kernel
theorem dX8_reads_27 : decode cX8_reads 27 = .ok (.iconst 0, 1) := by decide +kernel
theorem dX8_reads_28 : decode cX8_reads 28 = .ok (.putfield 53, 3) := by decide +kernel
theorem dX8_reads_31 : decode cX8_reads 31 = .ok (.iconst 0, 1) := by decide +kernel
theorem dX8_reads_32 : decode cX8_reads 32 = .ok (.istore_n 1, 1) := by decide +kernel
theorem dX8_reads_33 : decode cX8_reads 33 = .ok (.iconst 1, 1) := by decide +kernel
theorem dX8_reads_34 : decode cX8_reads 34 = .ok (.istore_n 2, 1) := by decide +kernel
theorem dX8_reads_35 : decode cX8_reads 35 = .ok (.iload_n 2, 1) := by decide +kernel
theorem dX8_reads_36 : decode cX8_reads 36 = .ok (.ifCond .eq 70, 3) := by decide +kernel
theorem dX8_reads_39 : decode cX8_reads 39 = .ok (.aload_n 0, 1) := by decide +kernel
theorem dX8_reads_40 : decode cX8_reads 40 = .ok (.invokevirtual 76, 3) := by decide +kernel
theorem dX8_reads_43 : decode cX8_reads 43 = .ok (.aload_n 0, 1) := by decide +kernel
theorem dX8_reads_44 : decode cX8_reads 44 = .ok (.invokevirtual 100, 3) := by decide +kernel
theorem dX8_reads_47 : decode cX8_reads 47 = .ok (.ifCond .ne 5, 3) := by decide +kernel
theorem dX8_reads_50 : decode cX8_reads 50 = .ok (.iconst (-1), 1) := by decide +kernel
theorem dX8_reads_51 : decode cX8_reads 51 = .ok (.ireturn, 1) := by decide +kernel
theorem dX8_reads_52 : decode cX8_reads 52 = .ok (.iinc 1 1, 3) := by decide +kernel
theorem dX8_reads_55 : decode cX8_reads 55 = .ok (.aload_n 0, 1) := by decide +kernel
theorem dX8_reads_56 : decode cX8_reads 56 = .ok (.invokevirtual 76, 3) := by decide +kernel
theorem dX8_reads_59 : decode cX8_reads 59 = .ok (.aload_n 0, 1) := by decide +kernel
theorem dX8_reads_60 : decode cX8_reads 60 = .ok (.getfield 70, 3) := by decide +kernel
theorem dX8_reads_63 : decode cX8_reads 63 = .ok (.ifCond .eq 7, 3) := by decide +kernel
theorem dX8_reads_66 : decode cX8_reads 66 = .ok (.iconst 1, 1) := by decide +kernel
theorem dX8_reads_67 : decode cX8_reads 67 = .ok (.goto 4, 3) := by decide +kernel
theorem dX8_reads_70 : decode cX8_reads 70 = .ok (.iconst 0, 1) := by decide +kernel
theorem dX8_reads_71 : decode cX8_reads 71 = .ok (.istore_n 2, 1) := by decide +kernel
theorem dX8_reads_72 : decode cX8_reads 72 = .ok (.iload_n 2, 1) := by decide +kernel
theorem dX8_reads_73 : decode cX8_reads 73 = .ok (.ifCond .eq (-38), 3) := by decide +kernel
theorem dX8_reads_76 : decode cX8_reads 76 = .ok (.aload_n 0, 1) := by decide +kernel
theorem dX8_reads_77 : decode cX8_reads 77 = .ok (.getfield 70, 3) := by decide +kernel
theorem dX8_reads_80 : decode cX8_reads 80 = .ok (.iconst 3, 1) := by decide +kernel
theorem dX8_reads_81 : decode cX8_reads 81 = .ok (.if_icmp .ne 23, 3) := by decide +kernel
theorem dX8_reads_84 : decode cX8_reads 84 = .ok (.aload_n 0, 1) := by decide +kernel
theorem dX8_reads_85 : decode cX8_reads 85 = .ok (.getfield 7, 3) := by decide +kernel
theorem dX8_reads_88 : decode cX8_reads 88 = .ok (.aload_n 0, 1) := by decide +kernel
theorem dX8_reads_89 : decode cX8_reads 89 = .ok (.getfield 60, 3) := by decide +kernel
theorem dX8_reads_92 : decode cX8_reads 92 = .ok (.iaload, 1) := by decide +kernel
theorem dX8_reads_93 : decode cX8_reads 93 = .ok (.bipush 59, 2) := by decide +kernel
theorem dX8_reads_95 : decode cX8_reads 95 = .ok (.if_icmp .ne 9, 3) := by decide +kernel
theorem dX8_reads_98 : decode cX8_reads 98 = .ok (.iload_n 1, 1) := by decide +kernel
theorem dX8_reads_99 : decode cX8_reads 99 = .ok (.bipush 14, 2) := by decide +kernel
theorem dX8_reads_101 : decode cX8_reads 101 = .ok (.if_icmp .ne (-66), 3) := by decide +kernel
theorem dX8_reads_104 : decode cX8_reads 104 = .ok (.iconst (-1), 1) := by decide +kernel
theorem dX8_reads_105 : decode cX8_reads 105 = .ok (.ireturn, 1) := by decide +kernel
theorem dX8_reads_106 : decode cX8_reads 106 = .ok (.iload_n 1, 1) := by decide +kernel
theorem dX8_reads_107 : decode cX8_reads 107 = .ok (.ireturn, 1) := by decide +kernel
theorem dX8_lays_0 : decode cX8_lays 0 = .ok (.iconst 0, 1) := by decide +kernel
theorem dX8_lays_1 : decode cX8_lays 1 = .ok (.istore_n 1, 1) := by decide +kernel
theorem dX8_lays_2 : decode cX8_lays 2 = .ok (.iload_n 1, 1) := by decide +kernel
theorem dX8_lays_3 : decode cX8_lays 3 = .ok (.bipush 66, 2) := by decide +kernel
theorem dX8_lays_5 : decode cX8_lays 5 = .ok (.if_icmp .ge 16, 3) := by decide +kernel
theorem dX8_lays_8 : decode cX8_lays 8 = .ok (.aload_n 0, 1) := by decide +kernel
theorem dX8_lays_9 : decode cX8_lays 9 = .ok (.getfield 19, 3) := by decide +kernel
theorem dX8_lays_12 : decode cX8_lays 12 = .ok (.iload_n 1, 1) := by decide +kernel
theorem dX8_lays_13 : decode cX8_lays 13 = .ok (.iconst 0, 1) := by decide +kernel
theorem dX8_lays_14 : decode cX8_lays 14 = .ok (.iastore, 1) := by decide +kernel
theorem dX8_lays_15 : decode cX8_lays 15 = .ok (.iinc 1 1, 3) := by decide +kernel
theorem dX8_lays_18 : decode cX8_lays 18 = .ok (.goto (-16), 3) := by decide +kernel
theorem dX8_lays_21 : decode cX8_lays 21 = .ok (.aload_n 0, 1) := by decide +kernel
theorem dX8_lays_22 : decode cX8_lays 22 = .ok (.getfield 19, 3) := by decide +kernel
theorem dX8_lays_25 : decode cX8_lays 25 = .ok (.iconst 2, 1) := by decide +kernel
theorem dX8_lays_26 : decode cX8_lays 26 = .ok (.aload_n 0, 1) := by decide +kernel
theorem dX8_lays_27 : decode cX8_lays 27 = .ok (.getfield 13, 3) := by decide +kernel
theorem dX8_lays_30 : decode cX8_lays 30 = .ok (.iconst 3, 1) := by decide +kernel
theorem dX8_lays_31 : decode cX8_lays 31 = .ok (.iaload, 1) := by decide +kernel
theorem dX8_lays_32 : decode cX8_lays 32 = .ok (.iastore, 1) := by decide +kernel
theorem dX8_lays_33 : decode cX8_lays 33 = .ok (.aload_n 0, 1) := by decide +kernel
theorem dX8_lays_34 : decode cX8_lays 34 = .ok (.getfield 19, 3) := by decide +kernel
theorem dX8_lays_37 : decode cX8_lays 37 = .ok (.iconst 3, 1) := by decide +kernel
theorem dX8_lays_38 : decode cX8_lays 38 = .ok (.aload_n 0, 1) := by decide +kernel
theorem dX8_lays_39 : decode cX8_lays 39 = .ok (.getfield 13, 3) := by decide +kernel
theorem dX8_lays_42 : decode cX8_lays 42 = .ok (.iconst 4, 1) := by decide +kernel
theorem dX8_lays_43 : decode cX8_lays 43 = .ok (.iaload, 1) := by decide +kernel
theorem dX8_lays_44 : decode cX8_lays 44 = .ok (.iastore, 1) := by decide +kernel
theorem dX8_lays_45 : decode cX8_lays 45 = .ok (.aload_n 0, 1) := by decide +kernel
theorem dX8_lays_46 : decode cX8_lays 46 = .ok (.getfield 19, 3) := by decide +kernel
theorem dX8_lays_49 : decode cX8_lays 49 = .ok (.iconst 4, 1) := by decide +kernel
theorem dX8_lays_50 : decode cX8_lays 50 = .ok (.iconst (-1), 1) := by decide +kernel
theorem dX8_lays_51 : decode cX8_lays 51 = .ok (.iastore, 1) := by decide +kernel
theorem dX8_lays_52 : decode cX8_lays 52 = .ok (.iconst 0, 1) := by decide +kernel
theorem dX8_lays_53 : decode cX8_lays 53 = .ok (.istore_n 1, 1) := by decide +kernel
theorem dX8_lays_54 : decode cX8_lays 54 = .ok (.iload_n 1, 1) := by decide +kernel
theorem dX8_lays_55 : decode cX8_lays 55 = .ok (.bipush 18, 2) := by decide +kernel
theorem dX8_lays_57 : decode cX8_lays 57 = .ok (.if_icmp .ge 26, 3) := by decide +kernel
theorem dX8_lays_60 : decode cX8_lays 60 = .ok (.aload_n 0, 1) := by decide +kernel
theorem dX8_lays_61 : decode cX8_lays 61 = .ok (.getfield 19, 3) := by decide +kernel
theorem dX8_lays_64 : decode cX8_lays 64 = .ok (.bipush 6, 2) := by decide +kernel
theorem dX8_lays_66 : decode cX8_lays 66 = .ok (.iload_n 1, 1) := by decide +kernel
theorem dX8_lays_67 : decode cX8_lays 67 = .ok (.iadd, 1) := by decide +kernel
theorem dX8_lays_68 : decode cX8_lays 68 = .ok (.aload_n 0, 1) := by decide +kernel
theorem dX8_lays_69 : decode cX8_lays 69 = .ok (.getfield 13, 3) := by decide +kernel
theorem dX8_lays_72 : decode cX8_lays 72 = .ok (.iconst 5, 1) := by decide +kernel
theorem dX8_lays_73 : decode cX8_lays 73 = .ok (.iload_n 1, 1) := by decide +kernel
theorem dX8_lays_74 : decode cX8_lays 74 = .ok (.iadd, 1) := by decide +kernel
theorem dX8_lays_75 : decode cX8_lays 75 = .ok (.iaload, 1) := by decide +kernel
theorem dX8_lays_76 : decode cX8_lays 76 = .ok (.iastore, 1) := by decide +kernel
theorem dX8_lays_77 : decode cX8_lays 77 = .ok (.iinc 1 1, 3) := by decide +kernel
theorem dX8_lays_80 : decode cX8_lays 80 = .ok (.goto (-26), 3) := by decide +kernel
theorem dX8_lays_83 : decode cX8_lays 83 = .ok (.aload_n 0, 1) := by decide +kernel
theorem dX8_lays_84 : decode cX8_lays 84 = .ok (.iconst 0, 1) := by decide +kernel
theorem dX8_lays_85 : decode cX8_lays 85 = .ok (.putfield 103, 3) := by decide +kernel
theorem dX8_lays_88 : decode cX8_lays 88 = .ok (.aload_n 0, 1) := by decide +kernel
theorem dX8_lays_89 : decode cX8_lays 89 = .ok (.iconst 0, 1) := by decide +kernel
theorem dX8_lays_90 : decode cX8_lays 90 = .ok (.putfield 106, 3) := by decide +kernel
theorem dX8_lays_93 : decode cX8_lays 93 = .ok (.aload_n 0, 1) := by decide +kernel
theorem dX8_lays_94 : decode cX8_lays 94 = .ok (.getfield 28, 3) := by decide +kernel
theorem dX8_lays_97 : decode cX8_lays 97 = .ok (.iconst 0, 1) := by decide +kernel
theorem dX8_lays_98 : decode cX8_lays 98 = .ok (.iconst 0, 1) := by decide +kernel
theorem dX8_lays_99 : decode cX8_lays 99 = .ok (.bastore, 1) := by decide +kernel
theorem dX8_lays_100 : decode cX8_lays 100 = .ok (.aload_n 0, 1) := by decide +kernel
theorem dX8_lays_101 : decode cX8_lays 101 = .ok (.getfield 28, 3) := by decide +kernel
theorem dX8_lays_104 : decode cX8_lays 104 = .ok (.iconst 1, 1) := by decide +kernel
theorem dX8_lays_105 : decode cX8_lays 105 = .ok (.iconst 0, 1) := by decide +kernel
theorem dX8_lays_106 : decode cX8_lays 106 = .ok (.bastore, 1) := by decide +kernel
theorem dX8_lays_107 : decode cX8_lays 107 = .ok (.return_, 1) := by decide +kernel
set_option maxRecDepth 20000 in
theorem ggX8_fault_X8_reads : GoodIn wsX8_fault wsX8_reads := goodIn_r _ [6, 7, 8, 9, 10, 11, 1, 12, 13, 14, 5, 15, 16, 17, 18, 19, 20, 21, 22, 23, 24, 25, 26, 27, 28, 29, 30, 31, 32, 33, 34, 35, 36, 37, 38, 39, 40, 41, 42, 43, 44, 45, 46, 47, 48, 49, 50, 51, 52, 53, 54, 55, 56, 57, 58, 59, 60, 61, 62, 63, 64, 65, 66, 67, 68, 69, 70, 71, 72, 73, 74] (by decide +kernel) (by decide +kernel)
set_option maxRecDepth 20000 in
theorem gX8_fault_X8_reads : GoodIn wsX8_fault (wsV RX8 109 RX8 yX8_reads wsX8_reads) := goodIn_app (goodIn_of _ (by decide +kernel)) ggX8_fault_X8_reads
theorem dX8_fault_0 : decode cX8_fault 0 = .ok (.aload_n 0, 1) := by decide +kernel
theorem dX8_fault_1 : decode cX8_fault 1 = .ok (.invokevirtual 109, 3) := by decide +kernel
theorem dX8_fault_4 : decode cX8_fault 4 = .ok (.iconst (-1), 1) := by decide +kernel
theorem dX8_fault_5 : decode cX8_fault 5 = .ok (.if_icmp .ne 10, 3) := by decide +kernel
theorem dX8_fault_8 : decode cX8_fault 8 = .ok (.aload_n 0, 1) := by decide +kernel
theorem dX8_fault_9 : decode cX8_fault 9 = .ok (.getfield 60, 3) := by decide +kernel
theorem dX8_fault_12 : decode cX8_fault 12 = .ok (.goto 4, 3) := by decide +kernel
theorem dX8_fault_15 : decode cX8_fault 15 = .ok (.iconst (-1), 1) := by decide +kernel
theorem dX8_fault_16 : decode cX8_fault 16 = .ok (.ireturn, 1) := by decide +kernel
set_option maxRecDepth 20000 in
theorem ggX8_parade_X8_reads : GoodIn wsX8_parade wsX8_reads := goodIn_r _ [8, 2, 1, 9, 10, 11, 12, 13, 14, 15, 7, 16, 17, 18, 19, 20, 21, 3, 22, 23, 24, 25, 26, 27, 28, 29, 30, 31, 32, 33, 34, 35, 36, 37, 38, 39, 40, 41, 42, 43, 44, 45, 46, 47, 48, 49, 50, 51, 52, 53, 54, 55, 56, 57, 58, 67, 68, 69, 70, 71, 72, 73, 74, 75, 76, 77, 78, 79, 80, 81, 82] (by decide +kernel) (by decide +kernel)
set_option maxRecDepth 20000 in
theorem gX8_parade_X8_reads : GoodIn wsX8_parade (wsV RX8 109 RX8 yX8_reads wsX8_reads) := goodIn_app (goodIn_of _ (by decide +kernel)) ggX8_parade_X8_reads
set_option maxRecDepth 20000 in
theorem ggX8_parade_X8_lays : GoodIn wsX8_parade wsX8_lays := goodIn_r _ [62, 63, 1, 64, 65, 66, 67, 68, 69, 70, 71, 72, 73, 74, 75, 76, 77, 78, 79, 80, 81, 82] (by decide +kernel) (by decide +kernel)
set_option maxRecDepth 20000 in
theorem gX8_parade_X8_lays : GoodIn wsX8_parade (wsV RX8 42 RX8 yX8_lays wsX8_lays) := goodIn_app (goodIn_of _ (by decide +kernel)) ggX8_parade_X8_lays
theorem dX8_parade_0 : decode cX8_parade 0 = .ok (.aload_n 0, 1) := by decide +kernel
theorem dX8_parade_1 : decode cX8_parade 1 = .ok (.invokevirtual 109, 3) := by decide +kernel
theorem dX8_parade_4 : decode cX8_parade 4 = .ok (.istore_n 1, 1) := by decide +kernel
theorem dX8_parade_5 : decode cX8_parade 5 = .ok (.iload_n 1, 1) := by decide +kernel
theorem dX8_parade_6 : decode cX8_parade 6 = .ok (.iconst (-1), 1) := by decide +kernel
theorem dX8_parade_7 : decode cX8_parade 7 = .ok (.if_icmp .ne 6, 3) := by decide +kernel
theorem dX8_parade_10 : decode cX8_parade 10 = .ok (.bipush (-4), 2) := by decide +kernel
theorem dX8_parade_12 : decode cX8_parade 12 = .ok (.ireturn, 1) := by decide +kernel
theorem dX8_parade_13 : decode cX8_parade 13 = .ok (.iconst 0, 1) := by decide +kernel
theorem dX8_parade_14 : decode cX8_parade 14 = .ok (.istore_n 2, 1) := by decide +kernel
theorem dX8_parade_15 : decode cX8_parade 15 = .ok (.iload_n 2, 1) := by decide +kernel
theorem dX8_parade_16 : decode cX8_parade 16 = .ok (.bipush 23, 2) := by decide +kernel
theorem dX8_parade_18 : decode cX8_parade 18 = .ok (.if_icmp .ge 21, 3) := by decide +kernel
theorem dX8_parade_21 : decode cX8_parade 21 = .ok (.aload_n 0, 1) := by decide +kernel
theorem dX8_parade_22 : decode cX8_parade 22 = .ok (.getfield 13, 3) := by decide +kernel
theorem dX8_parade_25 : decode cX8_parade 25 = .ok (.iload_n 2, 1) := by decide +kernel
theorem dX8_parade_26 : decode cX8_parade 26 = .ok (.aload_n 0, 1) := by decide +kernel
theorem dX8_parade_27 : decode cX8_parade 27 = .ok (.getfield 16, 3) := by decide +kernel
theorem dX8_parade_30 : decode cX8_parade 30 = .ok (.iload_n 2, 1) := by decide +kernel
theorem dX8_parade_31 : decode cX8_parade 31 = .ok (.iaload, 1) := by decide +kernel
theorem dX8_parade_32 : decode cX8_parade 32 = .ok (.iastore, 1) := by decide +kernel
theorem dX8_parade_33 : decode cX8_parade 33 = .ok (.iinc 2 1, 3) := by decide +kernel
theorem dX8_parade_36 : decode cX8_parade 36 = .ok (.goto (-21), 3) := by decide +kernel
theorem dX8_parade_39 : decode cX8_parade 39 = .ok (.aload_n 0, 1) := by decide +kernel
theorem dX8_parade_40 : decode cX8_parade 40 = .ok (.invokevirtual 42, 3) := by decide +kernel
theorem dX8_parade_43 : decode cX8_parade 43 = .ok (.aload_n 0, 1) := by decide +kernel
theorem dX8_parade_44 : decode cX8_parade 44 = .ok (.iconst 0, 1) := by decide +kernel
theorem dX8_parade_45 : decode cX8_parade 45 = .ok (.putfield 49, 3) := by decide +kernel
theorem dX8_parade_48 : decode cX8_parade 48 = .ok (.iload_n 1, 1) := by decide +kernel
theorem dX8_parade_49 : decode cX8_parade 49 = .ok (.ireturn, 1) := by decide +kernel
set_option maxRecDepth 20000 in
theorem ggX8_mud_X8_cells : GoodIn wsX8_mud wsX8_cells := goodIn_r _ [6, 7, 11, 12, 13, 14, 15, 16, 17, 18, 19, 20, 21, 22, 23, 24, 25, 26] (by decide +kernel) (by decide +kernel)
set_option maxRecDepth 20000 in
theorem gX8_mud_X8_cells : GoodIn wsX8_mud (wsV RX8 113 RX8 yX8_cells wsX8_cells) := goodIn_app (goodIn_of _ (by decide +kernel)) ggX8_mud_X8_cells
set_option maxRecDepth 20000 in
theorem ggX8_mud_X8_in : GoodIn wsX8_mud wsX8_in := goodIn_r _ [10] (by decide +kernel) (by decide +kernel)
set_option maxRecDepth 20000 in
theorem gX8_mud_X8_in : GoodIn wsX8_mud (va_wsS RX8 45 yX8_in wsX8_in) := goodIn_app (goodIn_of _ (by decide +kernel)) ggX8_mud_X8_in
theorem dX8_mud_0 : decode cX8_mud 0 = .ok (.iload_n 1, 1) := by decide +kernel
theorem dX8_mud_1 : decode cX8_mud 1 = .ok (.iconst 0, 1) := by decide +kernel
theorem dX8_mud_2 : decode cX8_mud 2 = .ok (.aload_n 0, 1) := by decide +kernel
theorem dX8_mud_3 : decode cX8_mud 3 = .ok (.invokevirtual 113, 3) := by decide +kernel
theorem dX8_mud_6 : decode cX8_mud 6 = .ok (.iconst 1, 1) := by decide +kernel
theorem dX8_mud_7 : decode cX8_mud 7 = .ok (.isub, 1) := by decide +kernel
theorem dX8_mud_8 : decode cX8_mud 8 = .ok (.invokestatic 45, 3) := by decide +kernel
theorem dX8_mud_11 : decode cX8_mud 11 = .ok (.ifCond .eq 15, 3) := by decide +kernel
theorem dX8_mud_14 : decode cX8_mud 14 = .ok (.aload_n 0, 1) := by decide +kernel
theorem dX8_mud_15 : decode cX8_mud 15 = .ok (.getfield 19, 3) := by decide +kernel
theorem dX8_mud_18 : decode cX8_mud 18 = .ok (.bipush 30, 2) := by decide +kernel
theorem dX8_mud_20 : decode cX8_mud 20 = .ok (.iload_n 1, 1) := by decide +kernel
theorem dX8_mud_21 : decode cX8_mud 21 = .ok (.iadd, 1) := by decide +kernel
theorem dX8_mud_22 : decode cX8_mud 22 = .ok (.iaload, 1) := by decide +kernel
theorem dX8_mud_23 : decode cX8_mud 23 = .ok (.goto 5, 3) := by decide +kernel
theorem dX8_mud_26 : decode cX8_mud 26 = .ok (.bipush (-2), 2) := by decide +kernel
theorem dX8_mud_28 : decode cX8_mud 28 = .ok (.ireturn, 1) := by decide +kernel
theorem dX8_next_0 : decode cX8_next 0 = .ok (.bipush 8, 2) := by decide +kernel
theorem dX8_next_2 : decode cX8_next 2 = .ok (.bipush 8, 2) := by decide +kernel
theorem dX8_next_4 : decode cX8_next 4 = .ok (.iload_n 1, 1) := by decide +kernel
theorem dX8_next_5 : decode cX8_next 5 = .ok (.imul, 1) := by decide +kernel
theorem dX8_next_6 : decode cX8_next 6 = .ok (.iadd, 1) := by decide +kernel
theorem dX8_next_7 : decode cX8_next 7 = .ok (.iload_n 2, 1) := by decide +kernel
theorem dX8_next_8 : decode cX8_next 8 = .ok (.iadd, 1) := by decide +kernel
theorem dX8_next_9 : decode cX8_next 9 = .ok (.ireturn, 1) := by decide +kernel
set_option maxRecDepth 20000 in
theorem ggX8_figure_X8_in : GoodIn wsX8_figure wsX8_in := goodIn_r _ [5] (by decide +kernel) (by decide +kernel)
set_option maxRecDepth 20000 in
theorem gX8_figure_X8_in : GoodIn wsX8_figure (va_wsS RX8 45 yX8_in wsX8_in) := goodIn_app (goodIn_of _ (by decide +kernel)) ggX8_figure_X8_in
set_option maxRecDepth 20000 in
theorem ggX8_figure_X8_next : GoodIn wsX8_figure wsX8_next := goodIn_r _ [9] (by decide +kernel) (by decide +kernel)
set_option maxRecDepth 20000 in
theorem gX8_figure_X8_next : GoodIn wsX8_figure (wsV RX8 116 RX8 yX8_next wsX8_next) := goodIn_app (goodIn_of _ (by decide +kernel)) ggX8_figure_X8_next
theorem dX8_figure_0 : decode cX8_figure 0 = .ok (.iload_n 1, 1) := by decide +kernel
theorem dX8_figure_1 : decode cX8_figure 1 = .ok (.iconst 0, 1) := by decide +kernel
theorem dX8_figure_2 : decode cX8_figure 2 = .ok (.iconst 1, 1) := by decide +kernel
theorem dX8_figure_3 : decode cX8_figure 3 = .ok (.invokestatic 45, 3) := by decide +kernel
theorem dX8_figure_6 : decode cX8_figure 6 = .ok (.ifCond .eq 22, 3) := by decide +kernel
theorem dX8_figure_9 : decode cX8_figure 9 = .ok (.iload_n 2, 1) := by decide +kernel
theorem dX8_figure_10 : decode cX8_figure 10 = .ok (.iconst 0, 1) := by decide +kernel
theorem dX8_figure_11 : decode cX8_figure 11 = .ok (.aload_n 0, 1) := by decide +kernel
theorem dX8_figure_12 : decode cX8_figure 12 = .ok (.getfield 19, 3) := by decide +kernel
theorem dX8_figure_15 : decode cX8_figure 15 = .ok (.bipush 6, 2) := by decide +kernel
theorem dX8_figure_17 : decode cX8_figure 17 = .ok (.iload_n 1, 1) := by decide +kernel
theorem dX8_figure_18 : decode cX8_figure 18 = .ok (.iadd, 1) := by decide +kernel
theorem dX8_figure_19 : decode cX8_figure 19 = .ok (.iaload, 1) := by decide +kernel
theorem dX8_figure_20 : decode cX8_figure 20 = .ok (.iconst 1, 1) := by decide +kernel
theorem dX8_figure_21 : decode cX8_figure 21 = .ok (.isub, 1) := by decide +kernel
theorem dX8_figure_22 : decode cX8_figure 22 = .ok (.invokestatic 45, 3) := by decide +kernel
theorem dX8_figure_25 : decode cX8_figure 25 = .ok (.ifCond .ne 6, 3) := by decide +kernel
theorem dX8_figure_28 : decode cX8_figure 28 = .ok (.bipush (-2), 2) := by decide +kernel
theorem dX8_figure_30 : decode cX8_figure 30 = .ok (.ireturn, 1) := by decide +kernel
theorem dX8_figure_31 : decode cX8_figure 31 = .ok (.aload_n 0, 1) := by decide +kernel
theorem dX8_figure_32 : decode cX8_figure 32 = .ok (.getfield 19, 3) := by decide +kernel
theorem dX8_figure_35 : decode cX8_figure 35 = .ok (.aload_n 0, 1) := by decide +kernel
theorem dX8_figure_36 : decode cX8_figure 36 = .ok (.iload_n 1, 1) := by decide +kernel
theorem dX8_figure_37 : decode cX8_figure 37 = .ok (.iload_n 2, 1) := by decide +kernel
theorem dX8_figure_38 : decode cX8_figure 38 = .ok (.invokevirtual 116, 3) := by decide +kernel
theorem dX8_figure_41 : decode cX8_figure 41 = .ok (.iaload, 1) := by decide +kernel
theorem dX8_figure_42 : decode cX8_figure 42 = .ok (.istore 4, 2) := by decide +kernel
theorem dX8_figure_44 : decode cX8_figure 44 = .ok (.iload_n 3, 1) := by decide +kernel
theorem dX8_figure_45 : decode cX8_figure 45 = .ok (.ifCond .ne 11, 3) := by decide +kernel
theorem dX8_figure_48 : decode cX8_figure 48 = .ok (.iload 4, 2) := by decide +kernel
theorem dX8_figure_50 : decode cX8_figure 50 = .ok (.bipush 10, 2) := by decide +kernel
theorem dX8_figure_52 : decode cX8_figure 52 = .ok (.idiv, 1) := by decide +kernel
theorem dX8_figure_53 : decode cX8_figure 53 = .ok (.goto 18, 3) := by decide +kernel
theorem dX8_figure_56 : decode cX8_figure 56 = .ok (.iload_n 3, 1) := by decide +kernel
theorem dX8_figure_57 : decode cX8_figure 57 = .ok (.iconst 1, 1) := by decide +kernel
theorem dX8_figure_58 : decode cX8_figure 58 = .ok (.if_icmp .ne 11, 3) := by decide +kernel
theorem dX8_figure_61 : decode cX8_figure 61 = .ok (.iload 4, 2) := by decide +kernel
theorem dX8_figure_63 : decode cX8_figure 63 = .ok (.bipush 10, 2) := by decide +kernel
theorem dX8_figure_65 : decode cX8_figure 65 = .ok (.irem, 1) := by decide +kernel
theorem dX8_figure_66 : decode cX8_figure 66 = .ok (.goto 5, 3) := by decide +kernel
theorem dX8_figure_69 : decode cX8_figure 69 = .ok (.bipush (-3), 2) := by decide +kernel
theorem dX8_figure_71 : decode cX8_figure 71 = .ok (.ireturn, 1) := by decide +kernel
set_option maxRecDepth 20000 in
theorem ggX8_army_X8_in : GoodIn wsX8_army wsX8_in := goodIn_r _ [5] (by decide +kernel) (by decide +kernel)
set_option maxRecDepth 20000 in
theorem gX8_army_X8_in : GoodIn wsX8_army (va_wsS RX8 45 yX8_in wsX8_in) := goodIn_app (goodIn_of _ (by decide +kernel)) ggX8_army_X8_in
theorem dX8_army_0 : decode cX8_army 0 = .ok (.iload_n 1, 1) := by decide +kernel
theorem dX8_army_1 : decode cX8_army 1 = .ok (.iconst 0, 1) := by decide +kernel
theorem dX8_army_2 : decode cX8_army 2 = .ok (.iconst 1, 1) := by decide +kernel
theorem dX8_army_3 : decode cX8_army 3 = .ok (.invokestatic 45, 3) := by decide +kernel
theorem dX8_army_6 : decode cX8_army 6 = .ok (.ifCond .ne 6, 3) := by decide +kernel
theorem dX8_army_9 : decode cX8_army 9 = .ok (.bipush (-2), 2) := by decide +kernel
theorem dX8_army_11 : decode cX8_army 11 = .ok (.ireturn, 1) := by decide +kernel
theorem dX8_army_12 : decode cX8_army 12 = .ok (.iload_n 2, 1) := by decide +kernel
theorem dX8_army_13 : decode cX8_army 13 = .ok (.tableswitch 65 0 2 #[27, 37, 47], 27) := by decide +kernel
theorem dX8_army_40 : decode cX8_army 40 = .ok (.aload_n 0, 1) := by decide +kernel
theorem dX8_army_41 : decode cX8_army 41 = .ok (.getfield 19, 3) := by decide +kernel
theorem dX8_army_44 : decode cX8_army 44 = .ok (.bipush 6, 2) := by decide +kernel
theorem dX8_army_46 : decode cX8_army 46 = .ok (.iload_n 1, 1) := by decide +kernel
theorem dX8_army_47 : decode cX8_army 47 = .ok (.iadd, 1) := by decide +kernel
theorem dX8_army_48 : decode cX8_army 48 = .ok (.iaload, 1) := by decide +kernel
theorem dX8_army_49 : decode cX8_army 49 = .ok (.ireturn, 1) := by decide +kernel
theorem dX8_army_50 : decode cX8_army 50 = .ok (.aload_n 0, 1) := by decide +kernel
theorem dX8_army_51 : decode cX8_army 51 = .ok (.getfield 19, 3) := by decide +kernel
theorem dX8_army_54 : decode cX8_army 54 = .ok (.bipush 24, 2) := by decide +kernel
theorem dX8_army_56 : decode cX8_army 56 = .ok (.iload_n 1, 1) := by decide +kernel
theorem dX8_army_57 : decode cX8_army 57 = .ok (.iadd, 1) := by decide +kernel
theorem dX8_army_58 : decode cX8_army 58 = .ok (.iaload, 1) := by decide +kernel
theorem dX8_army_59 : decode cX8_army 59 = .ok (.ireturn, 1) := by decide +kernel
theorem dX8_army_60 : decode cX8_army 60 = .ok (.aload_n 0, 1) := by decide +kernel
theorem dX8_army_61 : decode cX8_army 61 = .ok (.getfield 19, 3) := by decide +kernel
theorem dX8_army_64 : decode cX8_army 64 = .ok (.iconst 0, 1) := by decide +kernel
theorem dX8_army_65 : decode cX8_army 65 = .ok (.iaload, 1) := by decide +kernel
theorem dX8_army_66 : decode cX8_army 66 = .ok (.iconst 2, 1) := by decide +kernel
theorem dX8_army_67 : decode cX8_army 67 = .ok (.irem, 1) := by decide +kernel
theorem dX8_army_68 : decode cX8_army 68 = .ok (.iload_n 1, 1) := by decide +kernel
theorem dX8_army_69 : decode cX8_army 69 = .ok (.if_icmp .ne 7, 3) := by decide +kernel
theorem dX8_army_72 : decode cX8_army 72 = .ok (.iconst 1, 1) := by decide +kernel
theorem dX8_army_73 : decode cX8_army 73 = .ok (.goto 4, 3) := by decide +kernel
theorem dX8_army_76 : decode cX8_army 76 = .ok (.iconst 0, 1) := by decide +kernel
theorem dX8_army_77 : decode cX8_army 77 = .ok (.ireturn, 1) := by decide +kernel
theorem dX8_army_78 : decode cX8_army 78 = .ok (.bipush (-3), 2) := by decide +kernel
theorem dX8_army_80 : decode cX8_army 80 = .ok (.ireturn, 1) := by decide +kernel
set_option maxRecDepth 20000 in
theorem ggX8_as_X8_in : GoodIn wsX8_as wsX8_in := goodIn_r _ [5] (by decide +kernel) (by decide +kernel)
set_option maxRecDepth 20000 in
theorem gX8_as_X8_in : GoodIn wsX8_as (va_wsS RX8 45 yX8_in wsX8_in) := goodIn_app (goodIn_of _ (by decide +kernel)) ggX8_as_X8_in
set_option maxRecDepth 20000 in
theorem ggX8_as_X8_next : GoodIn wsX8_as wsX8_next := goodIn_r _ [9] (by decide +kernel) (by decide +kernel)
set_option maxRecDepth 20000 in
theorem gX8_as_X8_next : GoodIn wsX8_as (wsV RX8 116 RX8 yX8_next wsX8_next) := goodIn_app (goodIn_of _ (by decide +kernel)) ggX8_as_X8_next
theorem dX8_as_0 : decode cX8_as 0 = .ok (.iload_n 1, 1) := by decide +kernel
theorem dX8_as_1 : decode cX8_as 1 = .ok (.iconst 0, 1) := by decide +kernel
theorem dX8_as_2 : decode cX8_as 2 = .ok (.iconst 1, 1) := by decide +kernel
theorem dX8_as_3 : decode cX8_as 3 = .ok (.invokestatic 45, 3) := by decide +kernel
theorem dX8_as_6 : decode cX8_as 6 = .ok (.ifCond .ne 6, 3) := by decide +kernel
theorem dX8_as_9 : decode cX8_as 9 = .ok (.bipush (-2), 2) := by decide +kernel
theorem dX8_as_11 : decode cX8_as 11 = .ok (.ireturn, 1) := by decide +kernel
theorem dX8_as_12 : decode cX8_as 12 = .ok (.iload_n 2, 1) := by decide +kernel
theorem dX8_as_13 : decode cX8_as 13 = .ok (.iconst 0, 1) := by decide +kernel
theorem dX8_as_14 : decode cX8_as 14 = .ok (.iconst 5, 1) := by decide +kernel
theorem dX8_as_15 : decode cX8_as 15 = .ok (.invokestatic 45, 3) := by decide +kernel
theorem dX8_as_18 : decode cX8_as 18 = .ok (.ifCond .ne 6, 3) := by decide +kernel
theorem dX8_as_21 : decode cX8_as 21 = .ok (.bipush (-3), 2) := by decide +kernel
theorem dX8_as_23 : decode cX8_as 23 = .ok (.ireturn, 1) := by decide +kernel
theorem dX8_as_24 : decode cX8_as 24 = .ok (.aload_n 0, 1) := by decide +kernel
theorem dX8_as_25 : decode cX8_as 25 = .ok (.getfield 19, 3) := by decide +kernel
theorem dX8_as_28 : decode cX8_as 28 = .ok (.bipush 6, 2) := by decide +kernel
theorem dX8_as_30 : decode cX8_as 30 = .ok (.iload_n 1, 1) := by decide +kernel
theorem dX8_as_31 : decode cX8_as 31 = .ok (.iadd, 1) := by decide +kernel
theorem dX8_as_32 : decode cX8_as 32 = .ok (.iaload, 1) := by decide +kernel
theorem dX8_as_33 : decode cX8_as 33 = .ok (.ifCond .ne 6, 3) := by decide +kernel
theorem dX8_as_36 : decode cX8_as 36 = .ok (.bipush (-4), 2) := by decide +kernel
theorem dX8_as_38 : decode cX8_as 38 = .ok (.ireturn, 1) := by decide +kernel
theorem dX8_as_39 : decode cX8_as 39 = .ok (.aload_n 0, 1) := by decide +kernel
theorem dX8_as_40 : decode cX8_as 40 = .ok (.getfield 19, 3) := by decide +kernel
theorem dX8_as_43 : decode cX8_as 43 = .ok (.aload_n 0, 1) := by decide +kernel
theorem dX8_as_44 : decode cX8_as 44 = .ok (.iload_n 1, 1) := by decide +kernel
theorem dX8_as_45 : decode cX8_as 45 = .ok (.iconst 0, 1) := by decide +kernel
theorem dX8_as_46 : decode cX8_as 46 = .ok (.invokevirtual 116, 3) := by decide +kernel
theorem dX8_as_49 : decode cX8_as 49 = .ok (.iaload, 1) := by decide +kernel
theorem dX8_as_50 : decode cX8_as 50 = .ok (.bipush 10, 2) := by decide +kernel
theorem dX8_as_52 : decode cX8_as 52 = .ok (.idiv, 1) := by decide +kernel
theorem dX8_as_53 : decode cX8_as 53 = .ok (.istore_n 3, 1) := by decide +kernel
theorem dX8_as_54 : decode cX8_as 54 = .ok (.iload_n 2, 1) := by decide +kernel
theorem dX8_as_55 : decode cX8_as 55 = .ok (.ifCond .eq 20, 3) := by decide +kernel
theorem dX8_as_58 : decode cX8_as 58 = .ok (.iload_n 2, 1) := by decide +kernel
theorem dX8_as_59 : decode cX8_as 59 = .ok (.iload_n 3, 1) := by decide +kernel
theorem dX8_as_60 : decode cX8_as 60 = .ok (.iconst 1, 1) := by decide +kernel
theorem dX8_as_61 : decode cX8_as 61 = .ok (.iadd, 1) := by decide +kernel
theorem dX8_as_62 : decode cX8_as 62 = .ok (.if_icmp .eq 13, 3) := by decide +kernel
theorem dX8_as_65 : decode cX8_as 65 = .ok (.iload_n 2, 1) := by decide +kernel
theorem dX8_as_66 : decode cX8_as 66 = .ok (.iconst 1, 1) := by decide +kernel
theorem dX8_as_67 : decode cX8_as 67 = .ok (.if_icmp .ne 12, 3) := by decide +kernel
theorem dX8_as_70 : decode cX8_as 70 = .ok (.iload_n 3, 1) := by decide +kernel
theorem dX8_as_71 : decode cX8_as 71 = .ok (.iconst 3, 1) := by decide +kernel
theorem dX8_as_72 : decode cX8_as 72 = .ok (.if_icmp .ge 7, 3) := by decide +kernel
theorem dX8_as_75 : decode cX8_as 75 = .ok (.iconst 1, 1) := by decide +kernel
theorem dX8_as_76 : decode cX8_as 76 = .ok (.goto 4, 3) := by decide +kernel
theorem dX8_as_79 : decode cX8_as 79 = .ok (.iconst 0, 1) := by decide +kernel
theorem dX8_as_80 : decode cX8_as 80 = .ok (.istore 4, 2) := by decide +kernel
theorem dX8_as_82 : decode cX8_as 82 = .ok (.iload 4, 2) := by decide +kernel
theorem dX8_as_84 : decode cX8_as 84 = .ok (.ifCond .ne 8, 3) := by decide +kernel
theorem dX8_as_87 : decode cX8_as 87 = .ok (.bipush (-4), 2) := by decide +kernel
theorem dX8_as_89 : decode cX8_as 89 = .ok (.goto 22, 3) := by decide +kernel
theorem dX8_as_92 : decode cX8_as 92 = .ok (.iload_n 3, 1) := by decide +kernel
theorem dX8_as_93 : decode cX8_as 93 = .ok (.iconst 2, 1) := by decide +kernel
theorem dX8_as_94 : decode cX8_as 94 = .ok (.if_icmp .ne 7, 3) := by decide +kernel
theorem dX8_as_97 : decode cX8_as 97 = .ok (.iconst 2, 1) := by decide +kernel
theorem dX8_as_98 : decode cX8_as 98 = .ok (.goto 13, 3) := by decide +kernel
theorem dX8_as_101 : decode cX8_as 101 = .ok (.iload_n 3, 1) := by decide +kernel
theorem dX8_as_102 : decode cX8_as 102 = .ok (.iconst 3, 1) := by decide +kernel
theorem dX8_as_103 : decode cX8_as 103 = .ok (.if_icmp .ge 7, 3) := by decide +kernel
theorem dX8_as_106 : decode cX8_as 106 = .ok (.iconst 1, 1) := by decide +kernel
theorem dX8_as_107 : decode cX8_as 107 = .ok (.goto 4, 3) := by decide +kernel
theorem dX8_as_110 : decode cX8_as 110 = .ok (.iconst 0, 1) := by decide +kernel
theorem dX8_as_111 : decode cX8_as 111 = .ok (.ireturn, 1) := by decide +kernel
set_option maxRecDepth 20000 in
theorem ggX8_steps_X8_in : GoodIn wsX8_steps wsX8_in := goodIn_r _ [6] (by decide +kernel) (by decide +kernel)
set_option maxRecDepth 20000 in
theorem gX8_steps_X8_in : GoodIn wsX8_steps (va_wsS RX8 45 yX8_in wsX8_in) := goodIn_app (goodIn_of _ (by decide +kernel)) ggX8_steps_X8_in
theorem dX8_steps_0 : decode cX8_steps 0 = .ok (.aload_n 0, 1) := by decide +kernel
theorem dX8_steps_1 : decode cX8_steps 1 = .ok (.getfield 13, 3) := by decide +kernel
theorem dX8_steps_4 : decode cX8_steps 4 = .ok (.iconst 0, 1) := by decide +kernel
theorem dX8_steps_5 : decode cX8_steps 5 = .ok (.iaload, 1) := by decide +kernel
theorem dX8_steps_6 : decode cX8_steps 6 = .ok (.istore_n 2, 1) := by decide +kernel
theorem dX8_steps_7 : decode cX8_steps 7 = .ok (.aload_n 0, 1) := by decide +kernel
theorem dX8_steps_8 : decode cX8_steps 8 = .ok (.getfield 19, 3) := by decide +kernel
theorem dX8_steps_11 : decode cX8_steps 11 = .ok (.iconst 2, 1) := by decide +kernel
theorem dX8_steps_12 : decode cX8_steps 12 = .ok (.iaload, 1) := by decide +kernel
theorem dX8_steps_13 : decode cX8_steps 13 = .ok (.iload_n 2, 1) := by decide +kernel
theorem dX8_steps_14 : decode cX8_steps 14 = .ok (.irem, 1) := by decide +kernel
theorem dX8_steps_15 : decode cX8_steps 15 = .ok (.iload_n 1, 1) := by decide +kernel
theorem dX8_steps_16 : decode cX8_steps 16 = .ok (.iconst 1, 1) := by decide +kernel
theorem dX8_steps_17 : decode cX8_steps 17 = .ok (.if_icmp .ne 7, 3) := by decide +kernel
theorem dX8_steps_20 : decode cX8_steps 20 = .ok (.iconst 1, 1) := by decide +kernel
theorem dX8_steps_21 : decode cX8_steps 21 = .ok (.goto 13, 3) := by decide +kernel
theorem dX8_steps_24 : decode cX8_steps 24 = .ok (.iload_n 1, 1) := by decide +kernel
theorem dX8_steps_25 : decode cX8_steps 25 = .ok (.iconst 3, 1) := by decide +kernel
theorem dX8_steps_26 : decode cX8_steps 26 = .ok (.if_icmp .ne 7, 3) := by decide +kernel
theorem dX8_steps_29 : decode cX8_steps 29 = .ok (.iconst (-1), 1) := by decide +kernel
theorem dX8_steps_30 : decode cX8_steps 30 = .ok (.goto 4, 3) := by decide +kernel
theorem dX8_steps_33 : decode cX8_steps 33 = .ok (.iconst 0, 1) := by decide +kernel
theorem dX8_steps_34 : decode cX8_steps 34 = .ok (.iadd, 1) := by decide +kernel
theorem dX8_steps_35 : decode cX8_steps 35 = .ok (.istore_n 3, 1) := by decide +kernel
theorem dX8_steps_36 : decode cX8_steps 36 = .ok (.aload_n 0, 1) := by decide +kernel
theorem dX8_steps_37 : decode cX8_steps 37 = .ok (.getfield 19, 3) := by decide +kernel
theorem dX8_steps_40 : decode cX8_steps 40 = .ok (.iconst 2, 1) := by decide +kernel
theorem dX8_steps_41 : decode cX8_steps 41 = .ok (.iaload, 1) := by decide +kernel
theorem dX8_steps_42 : decode cX8_steps 42 = .ok (.iload_n 2, 1) := by decide +kernel
theorem dX8_steps_43 : decode cX8_steps 43 = .ok (.idiv, 1) := by decide +kernel
theorem dX8_steps_44 : decode cX8_steps 44 = .ok (.iload_n 1, 1) := by decide +kernel
theorem dX8_steps_45 : decode cX8_steps 45 = .ok (.iconst 2, 1) := by decide +kernel
theorem dX8_steps_46 : decode cX8_steps 46 = .ok (.if_icmp .ne 7, 3) := by decide +kernel
theorem dX8_steps_49 : decode cX8_steps 49 = .ok (.iconst 1, 1) := by decide +kernel
theorem dX8_steps_50 : decode cX8_steps 50 = .ok (.goto 12, 3) := by decide +kernel
theorem dX8_steps_53 : decode cX8_steps 53 = .ok (.iload_n 1, 1) := by decide +kernel
theorem dX8_steps_54 : decode cX8_steps 54 = .ok (.ifCond .ne 7, 3) := by decide +kernel
theorem dX8_steps_57 : decode cX8_steps 57 = .ok (.iconst (-1), 1) := by decide +kernel
theorem dX8_steps_58 : decode cX8_steps 58 = .ok (.goto 4, 3) := by decide +kernel
theorem dX8_steps_61 : decode cX8_steps 61 = .ok (.iconst 0, 1) := by decide +kernel
theorem dX8_steps_62 : decode cX8_steps 62 = .ok (.iadd, 1) := by decide +kernel
theorem dX8_steps_63 : decode cX8_steps 63 = .ok (.istore 4, 2) := by decide +kernel
theorem dX8_steps_65 : decode cX8_steps 65 = .ok (.iload_n 3, 1) := by decide +kernel
theorem dX8_steps_66 : decode cX8_steps 66 = .ok (.iconst 0, 1) := by decide +kernel
theorem dX8_steps_67 : decode cX8_steps 67 = .ok (.iload_n 2, 1) := by decide +kernel
theorem dX8_steps_68 : decode cX8_steps 68 = .ok (.iconst 1, 1) := by decide +kernel
theorem dX8_steps_69 : decode cX8_steps 69 = .ok (.isub, 1) := by decide +kernel
theorem dX8_steps_70 : decode cX8_steps 70 = .ok (.invokestatic 45, 3) := by decide +kernel
theorem dX8_steps_73 : decode cX8_steps 73 = .ok (.ifCond .eq 53, 3) := by decide +kernel
theorem dX8_steps_76 : decode cX8_steps 76 = .ok (.iload 4, 2) := by decide +kernel
theorem dX8_steps_78 : decode cX8_steps 78 = .ok (.iconst 0, 1) := by decide +kernel
theorem dX8_steps_79 : decode cX8_steps 79 = .ok (.aload_n 0, 1) := by decide +kernel
theorem dX8_steps_80 : decode cX8_steps 80 = .ok (.getfield 13, 3) := by decide +kernel
theorem dX8_steps_83 : decode cX8_steps 83 = .ok (.iconst 1, 1) := by decide +kernel
theorem dX8_steps_84 : decode cX8_steps 84 = .ok (.iaload, 1) := by decide +kernel
theorem dX8_steps_85 : decode cX8_steps 85 = .ok (.iconst 1, 1) := by decide +kernel
theorem dX8_steps_86 : decode cX8_steps 86 = .ok (.isub, 1) := by decide +kernel
theorem dX8_steps_87 : decode cX8_steps 87 = .ok (.invokestatic 45, 3) := by decide +kernel
theorem dX8_steps_90 : decode cX8_steps 90 = .ok (.ifCond .eq 36, 3) := by decide +kernel
theorem dX8_steps_93 : decode cX8_steps 93 = .ok (.aload_n 0, 1) := by decide +kernel
theorem dX8_steps_94 : decode cX8_steps 94 = .ok (.getfield 19, 3) := by decide +kernel
theorem dX8_steps_97 : decode cX8_steps 97 = .ok (.iconst 2, 1) := by decide +kernel
theorem dX8_steps_98 : decode cX8_steps 98 = .ok (.iload_n 2, 1) := by decide +kernel
theorem dX8_steps_99 : decode cX8_steps 99 = .ok (.iload 4, 2) := by decide +kernel
theorem dX8_steps_101 : decode cX8_steps 101 = .ok (.imul, 1) := by decide +kernel
theorem dX8_steps_102 : decode cX8_steps 102 = .ok (.iload_n 3, 1) := by decide +kernel
theorem dX8_steps_103 : decode cX8_steps 103 = .ok (.iadd, 1) := by decide +kernel
theorem dX8_steps_104 : decode cX8_steps 104 = .ok (.iastore, 1) := by decide +kernel
theorem dX8_steps_105 : decode cX8_steps 105 = .ok (.aload_n 0, 1) := by decide +kernel
theorem dX8_steps_106 : decode cX8_steps 106 = .ok (.getfield 19, 3) := by decide +kernel
theorem dX8_steps_109 : decode cX8_steps 109 = .ok (.bipush 30, 2) := by decide +kernel
theorem dX8_steps_111 : decode cX8_steps 111 = .ok (.aload_n 0, 1) := by decide +kernel
theorem dX8_steps_112 : decode cX8_steps 112 = .ok (.getfield 19, 3) := by decide +kernel
theorem dX8_steps_115 : decode cX8_steps 115 = .ok (.iconst 2, 1) := by decide +kernel
theorem dX8_steps_116 : decode cX8_steps 116 = .ok (.iaload, 1) := by decide +kernel
theorem dX8_steps_117 : decode cX8_steps 117 = .ok (.iadd, 1) := by decide +kernel
theorem dX8_steps_118 : decode cX8_steps 118 = .ok (.dup2, 1) := by decide +kernel
theorem dX8_steps_119 : decode cX8_steps 119 = .ok (.iaload, 1) := by decide +kernel
theorem dX8_steps_120 : decode cX8_steps 120 = .ok (.iconst 1, 1) := by decide +kernel
theorem dX8_steps_121 : decode cX8_steps 121 = .ok (.iadd, 1) := by decide +kernel
theorem dX8_steps_122 : decode cX8_steps 122 = .ok (.iastore, 1) := by decide +kernel
theorem dX8_steps_123 : decode cX8_steps 123 = .ok (.goto 16, 3) := by decide +kernel
theorem dX8_steps_126 : decode cX8_steps 126 = .ok (.aload_n 0, 1) := by decide +kernel
theorem dX8_steps_127 : decode cX8_steps 127 = .ok (.getfield 19, 3) := by decide +kernel
theorem dX8_steps_130 : decode cX8_steps 130 = .ok (.bipush 26, 2) := by decide +kernel
theorem dX8_steps_132 : decode cX8_steps 132 = .ok (.iload_n 1, 1) := by decide +kernel
theorem dX8_steps_133 : decode cX8_steps 133 = .ok (.iadd, 1) := by decide +kernel
theorem dX8_steps_134 : decode cX8_steps 134 = .ok (.dup2, 1) := by decide +kernel
theorem dX8_steps_135 : decode cX8_steps 135 = .ok (.iaload, 1) := by decide +kernel
theorem dX8_steps_136 : decode cX8_steps 136 = .ok (.iconst 1, 1) := by decide +kernel
theorem dX8_steps_137 : decode cX8_steps 137 = .ok (.iadd, 1) := by decide +kernel
theorem dX8_steps_138 : decode cX8_steps 138 = .ok (.iastore, 1) := by decide +kernel
theorem dX8_steps_139 : decode cX8_steps 139 = .ok (.return_, 1) := by decide +kernel
set_option maxRecDepth 20000 in
theorem ggX8_begins_X8_next : GoodIn wsX8_begins wsX8_next := goodIn_r _ [6] (by decide +kernel) (by decide +kernel)
set_option maxRecDepth 20000 in
theorem gX8_begins_X8_next : GoodIn wsX8_begins (wsV RX8 116 RX8 yX8_next wsX8_next) := goodIn_app (goodIn_of _ (by decide +kernel)) ggX8_begins_X8_next
theorem dX8_begins_0 : decode cX8_begins 0 = .ok (.aload_n 0, 1) := by decide +kernel
theorem dX8_begins_1 : decode cX8_begins 1 = .ok (.getfield 19, 3) := by decide +kernel
theorem dX8_begins_4 : decode cX8_begins 4 = .ok (.aload_n 0, 1) := by decide +kernel
theorem dX8_begins_5 : decode cX8_begins 5 = .ok (.iload_n 1, 1) := by decide +kernel
theorem dX8_begins_6 : decode cX8_begins 6 = .ok (.iconst 0, 1) := by decide +kernel
theorem dX8_begins_7 : decode cX8_begins 7 = .ok (.invokevirtual 116, 3) := by decide +kernel
theorem dX8_begins_10 : decode cX8_begins 10 = .ok (.iaload, 1) := by decide +kernel
theorem dX8_begins_11 : decode cX8_begins 11 = .ok (.istore_n 2, 1) := by decide +kernel
theorem dX8_begins_12 : decode cX8_begins 12 = .ok (.aload_n 0, 1) := by decide +kernel
theorem dX8_begins_13 : decode cX8_begins 13 = .ok (.getfield 19, 3) := by decide +kernel
theorem dX8_begins_16 : decode cX8_begins 16 = .ok (.bipush 6, 2) := by decide +kernel
theorem dX8_begins_18 : decode cX8_begins 18 = .ok (.iload_n 1, 1) := by decide +kernel
theorem dX8_begins_19 : decode cX8_begins 19 = .ok (.iadd, 1) := by decide +kernel
theorem dX8_begins_20 : decode cX8_begins 20 = .ok (.dup2, 1) := by decide +kernel
theorem dX8_begins_21 : decode cX8_begins 21 = .ok (.iaload, 1) := by decide +kernel
theorem dX8_begins_22 : decode cX8_begins 22 = .ok (.iconst 1, 1) := by decide +kernel
theorem dX8_begins_23 : decode cX8_begins 23 = .ok (.isub, 1) := by decide +kernel
theorem dX8_begins_24 : decode cX8_begins 24 = .ok (.iastore, 1) := by decide +kernel
theorem dX8_begins_25 : decode cX8_begins 25 = .ok (.iconst 0, 1) := by decide +kernel
theorem dX8_begins_26 : decode cX8_begins 26 = .ok (.istore_n 3, 1) := by decide +kernel
theorem dX8_begins_27 : decode cX8_begins 27 = .ok (.iload_n 3, 1) := by decide +kernel
theorem dX8_begins_28 : decode cX8_begins 28 = .ok (.aload_n 0, 1) := by decide +kernel
theorem dX8_begins_29 : decode cX8_begins 29 = .ok (.getfield 19, 3) := by decide +kernel
theorem dX8_begins_32 : decode cX8_begins 32 = .ok (.bipush 6, 2) := by decide +kernel
theorem dX8_begins_34 : decode cX8_begins 34 = .ok (.iload_n 1, 1) := by decide +kernel
theorem dX8_begins_35 : decode cX8_begins 35 = .ok (.iadd, 1) := by decide +kernel
theorem dX8_begins_36 : decode cX8_begins 36 = .ok (.iaload, 1) := by decide +kernel
theorem dX8_begins_37 : decode cX8_begins 37 = .ok (.if_icmp .ge 33, 3) := by decide +kernel
theorem dX8_begins_40 : decode cX8_begins 40 = .ok (.aload_n 0, 1) := by decide +kernel
theorem dX8_begins_41 : decode cX8_begins 41 = .ok (.getfield 19, 3) := by decide +kernel
theorem dX8_begins_44 : decode cX8_begins 44 = .ok (.aload_n 0, 1) := by decide +kernel
theorem dX8_begins_45 : decode cX8_begins 45 = .ok (.iload_n 1, 1) := by decide +kernel
theorem dX8_begins_46 : decode cX8_begins 46 = .ok (.iload_n 3, 1) := by decide +kernel
theorem dX8_begins_47 : decode cX8_begins 47 = .ok (.invokevirtual 116, 3) := by decide +kernel
theorem dX8_begins_50 : decode cX8_begins 50 = .ok (.aload_n 0, 1) := by decide +kernel
theorem dX8_begins_51 : decode cX8_begins 51 = .ok (.getfield 19, 3) := by decide +kernel
theorem dX8_begins_54 : decode cX8_begins 54 = .ok (.aload_n 0, 1) := by decide +kernel
theorem dX8_begins_55 : decode cX8_begins 55 = .ok (.iload_n 1, 1) := by decide +kernel
theorem dX8_begins_56 : decode cX8_begins 56 = .ok (.iload_n 3, 1) := by decide +kernel
theorem dX8_begins_57 : decode cX8_begins 57 = .ok (.iconst 1, 1) := by decide +kernel
theorem dX8_begins_58 : decode cX8_begins 58 = .ok (.iadd, 1) := by decide +kernel
theorem dX8_begins_59 : decode cX8_begins 59 = .ok (.invokevirtual 116, 3) := by decide +kernel
theorem dX8_begins_62 : decode cX8_begins 62 = .ok (.iaload, 1) := by decide +kernel
theorem dX8_begins_63 : decode cX8_begins 63 = .ok (.iastore, 1) := by decide +kernel
theorem dX8_begins_64 : decode cX8_begins 64 = .ok (.iinc 3 1, 3) := by decide +kernel
theorem dX8_begins_67 : decode cX8_begins 67 = .ok (.goto (-40), 3) := by decide +kernel
theorem dX8_begins_70 : decode cX8_begins 70 = .ok (.aload_n 0, 1) := by decide +kernel
theorem dX8_begins_71 : decode cX8_begins 71 = .ok (.getfield 19, 3) := by decide +kernel
theorem dX8_begins_74 : decode cX8_begins 74 = .ok (.iconst 4, 1) := by decide +kernel
theorem dX8_begins_75 : decode cX8_begins 75 = .ok (.iload_n 2, 1) := by decide +kernel
theorem dX8_begins_76 : decode cX8_begins 76 = .ok (.bipush 10, 2) := by decide +kernel
theorem dX8_begins_78 : decode cX8_begins 78 = .ok (.idiv, 1) := by decide +kernel
theorem dX8_begins_79 : decode cX8_begins 79 = .ok (.iastore, 1) := by decide +kernel
theorem dX8_begins_80 : decode cX8_begins 80 = .ok (.aload_n 0, 1) := by decide +kernel
theorem dX8_begins_81 : decode cX8_begins 81 = .ok (.getfield 19, 3) := by decide +kernel
theorem dX8_begins_84 : decode cX8_begins 84 = .ok (.iconst 5, 1) := by decide +kernel
theorem dX8_begins_85 : decode cX8_begins 85 = .ok (.iload_n 2, 1) := by decide +kernel
theorem dX8_begins_86 : decode cX8_begins 86 = .ok (.bipush 10, 2) := by decide +kernel
theorem dX8_begins_88 : decode cX8_begins 88 = .ok (.irem, 1) := by decide +kernel
theorem dX8_begins_89 : decode cX8_begins 89 = .ok (.iastore, 1) := by decide +kernel
theorem dX8_begins_90 : decode cX8_begins 90 = .ok (.return_, 1) := by decide +kernel
set_option maxRecDepth 20000 in
theorem ggX8_goes_X8_begins : GoodIn wsX8_goes wsX8_begins := goodIn_r _ [7, 1, 8, 9, 10, 6, 11, 19, 20, 21, 22, 23, 24, 25, 26, 27, 28, 29, 30, 31, 32, 33, 34] (by decide +kernel) (by decide +kernel)
set_option maxRecDepth 20000 in
theorem gX8_goes_X8_begins : GoodIn wsX8_goes (wsV RX8 120 RX8 yX8_begins wsX8_begins) := goodIn_app (goodIn_of _ (by decide +kernel)) ggX8_goes_X8_begins
set_option maxRecDepth 20000 in
theorem ggX8_goes_X8_steps : GoodIn wsX8_goes wsX8_steps := goodIn_r _ [15, 2, 1, 16, 17, 6, 18, 19, 20, 21, 22, 23, 24, 25, 26, 27, 28, 29, 30, 31, 32, 33, 34] (by decide +kernel) (by decide +kernel)
set_option maxRecDepth 20000 in
theorem gX8_goes_X8_steps : GoodIn wsX8_goes (wsV RX8 124 RX8 yX8_steps wsX8_steps) := goodIn_app (goodIn_of _ (by decide +kernel)) ggX8_goes_X8_steps
theorem dX8_goes_0 : decode cX8_goes 0 = .ok (.aload_n 0, 1) := by decide +kernel
theorem dX8_goes_1 : decode cX8_goes 1 = .ok (.getfield 19, 3) := by decide +kernel
theorem dX8_goes_4 : decode cX8_goes 4 = .ok (.iconst 0, 1) := by decide +kernel
theorem dX8_goes_5 : decode cX8_goes 5 = .ok (.iaload, 1) := by decide +kernel
theorem dX8_goes_6 : decode cX8_goes 6 = .ok (.iconst 2, 1) := by decide +kernel
theorem dX8_goes_7 : decode cX8_goes 7 = .ok (.irem, 1) := by decide +kernel
theorem dX8_goes_8 : decode cX8_goes 8 = .ok (.istore_n 1, 1) := by decide +kernel
theorem dX8_goes_9 : decode cX8_goes 9 = .ok (.iconst (-1), 1) := by decide +kernel
theorem dX8_goes_10 : decode cX8_goes 10 = .ok (.istore_n 2, 1) := by decide +kernel
theorem dX8_goes_11 : decode cX8_goes 11 = .ok (.aload_n 0, 1) := by decide +kernel
theorem dX8_goes_12 : decode cX8_goes 12 = .ok (.getfield 19, 3) := by decide +kernel
theorem dX8_goes_15 : decode cX8_goes 15 = .ok (.iconst 4, 1) := by decide +kernel
theorem dX8_goes_16 : decode cX8_goes 16 = .ok (.iaload, 1) := by decide +kernel
theorem dX8_goes_17 : decode cX8_goes 17 = .ok (.iconst (-1), 1) := by decide +kernel
theorem dX8_goes_18 : decode cX8_goes 18 = .ok (.if_icmp .ne 20, 3) := by decide +kernel
theorem dX8_goes_21 : decode cX8_goes 21 = .ok (.aload_n 0, 1) := by decide +kernel
theorem dX8_goes_22 : decode cX8_goes 22 = .ok (.getfield 19, 3) := by decide +kernel
theorem dX8_goes_25 : decode cX8_goes 25 = .ok (.bipush 6, 2) := by decide +kernel
theorem dX8_goes_27 : decode cX8_goes 27 = .ok (.iload_n 1, 1) := by decide +kernel
theorem dX8_goes_28 : decode cX8_goes 28 = .ok (.iadd, 1) := by decide +kernel
theorem dX8_goes_29 : decode cX8_goes 29 = .ok (.iaload, 1) := by decide +kernel
theorem dX8_goes_30 : decode cX8_goes 30 = .ok (.ifCond .le 8, 3) := by decide +kernel
theorem dX8_goes_33 : decode cX8_goes 33 = .ok (.aload_n 0, 1) := by decide +kernel
theorem dX8_goes_34 : decode cX8_goes 34 = .ok (.iload_n 1, 1) := by decide +kernel
theorem dX8_goes_35 : decode cX8_goes 35 = .ok (.invokevirtual 120, 3) := by decide +kernel
theorem dX8_goes_38 : decode cX8_goes 38 = .ok (.aload_n 0, 1) := by decide +kernel
theorem dX8_goes_39 : decode cX8_goes 39 = .ok (.getfield 19, 3) := by decide +kernel
theorem dX8_goes_42 : decode cX8_goes 42 = .ok (.iconst 4, 1) := by decide +kernel
theorem dX8_goes_43 : decode cX8_goes 43 = .ok (.iaload, 1) := by decide +kernel
theorem dX8_goes_44 : decode cX8_goes 44 = .ok (.istore_n 3, 1) := by decide +kernel
theorem dX8_goes_45 : decode cX8_goes 45 = .ok (.iload_n 3, 1) := by decide +kernel
theorem dX8_goes_46 : decode cX8_goes 46 = .ok (.iconst (-1), 1) := by decide +kernel
theorem dX8_goes_47 : decode cX8_goes 47 = .ok (.if_icmp .eq 127, 3) := by decide +kernel
theorem dX8_goes_50 : decode cX8_goes 50 = .ok (.iload_n 3, 1) := by decide +kernel
theorem dX8_goes_51 : decode cX8_goes 51 = .ok (.ifCond .eq 8, 3) := by decide +kernel
theorem dX8_goes_54 : decode cX8_goes 54 = .ok (.iload_n 3, 1) := by decide +kernel
theorem dX8_goes_55 : decode cX8_goes 55 = .ok (.iconst 2, 1) := by decide +kernel
theorem dX8_goes_56 : decode cX8_goes 56 = .ok (.if_icmp .ne 13, 3) := by decide +kernel
theorem dX8_goes_59 : decode cX8_goes 59 = .ok (.aload_n 0, 1) := by decide +kernel
theorem dX8_goes_60 : decode cX8_goes 60 = .ok (.aload_n 0, 1) := by decide +kernel
theorem dX8_goes_61 : decode cX8_goes 61 = .ok (.getfield 19, 3) := by decide +kernel
theorem dX8_goes_64 : decode cX8_goes 64 = .ok (.iconst 3, 1) := by decide +kernel
theorem dX8_goes_65 : decode cX8_goes 65 = .ok (.iaload, 1) := by decide +kernel
theorem dX8_goes_66 : decode cX8_goes 66 = .ok (.invokevirtual 124, 3) := by decide +kernel
theorem dX8_goes_69 : decode cX8_goes 69 = .ok (.iload_n 3, 1) := by decide +kernel
theorem dX8_goes_70 : decode cX8_goes 70 = .ok (.iconst 2, 1) := by decide +kernel
theorem dX8_goes_71 : decode cX8_goes 71 = .ok (.if_icmp .ne 13, 3) := by decide +kernel
theorem dX8_goes_74 : decode cX8_goes 74 = .ok (.aload_n 0, 1) := by decide +kernel
theorem dX8_goes_75 : decode cX8_goes 75 = .ok (.aload_n 0, 1) := by decide +kernel
theorem dX8_goes_76 : decode cX8_goes 76 = .ok (.getfield 19, 3) := by decide +kernel
theorem dX8_goes_79 : decode cX8_goes 79 = .ok (.iconst 3, 1) := by decide +kernel
theorem dX8_goes_80 : decode cX8_goes 80 = .ok (.iaload, 1) := by decide +kernel
theorem dX8_goes_81 : decode cX8_goes 81 = .ok (.invokevirtual 124, 3) := by decide +kernel
theorem dX8_goes_84 : decode cX8_goes 84 = .ok (.iload_n 3, 1) := by decide +kernel
theorem dX8_goes_85 : decode cX8_goes 85 = .ok (.iconst 1, 1) := by decide +kernel
theorem dX8_goes_86 : decode cX8_goes 86 = .ok (.if_icmp .ne 17, 3) := by decide +kernel
theorem dX8_goes_89 : decode cX8_goes 89 = .ok (.aload_n 0, 1) := by decide +kernel
theorem dX8_goes_90 : decode cX8_goes 90 = .ok (.aload_n 0, 1) := by decide +kernel
theorem dX8_goes_91 : decode cX8_goes 91 = .ok (.getfield 19, 3) := by decide +kernel
theorem dX8_goes_94 : decode cX8_goes 94 = .ok (.iconst 3, 1) := by decide +kernel
