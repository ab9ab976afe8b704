set_option maxRecDepth 20000 in
theorem dL_part_0 : decode cL_part 0 = .ok (.iload_n 0, 1) := by decide +kernel
theorem dL_part_1 : decode cL_part 1 = .ok (.ldc 7, 2) := by decide +kernel
theorem dL_part_3 : decode cL_part 3 = .ok (.iand, 1) := by decide +kernel
theorem dL_part_4 : decode cL_part 4 = .ok (.iload_n 1, 1) := by decide +kernel
theorem dL_part_5 : decode cL_part 5 = .ok (.irem, 1) := by decide +kernel
theorem dL_part_6 : decode cL_part 6 = .ok (.ireturn, 1) := by decide +kernel
theorem dL_cell_0 : decode cL_cell 0 = .ok (.aload_n 0, 1) := by decide +kernel
theorem dL_cell_1 : decode cL_cell 1 = .ok (.arraylength, 1) := by decide +kernel
theorem dL_cell_2 : decode cL_cell 2 = .ok (.ifCond .ne 13, 3) := by decide +kernel
theorem dL_cell_5 : decode cL_cell 5 = .ok (.sipush 7919, 3) := by decide +kernel
theorem dL_cell_8 : decode cL_cell 8 = .ok (.iload_n 1, 1) := by decide +kernel
theorem dL_cell_9 : decode cL_cell 9 = .ok (.imul, 1) := by decide +kernel
theorem dL_cell_10 : decode cL_cell 10 = .ok (.iconst 3, 1) := by decide +kernel
theorem dL_cell_11 : decode cL_cell 11 = .ok (.iadd, 1) := by decide +kernel
theorem dL_cell_12 : decode cL_cell 12 = .ok (.goto 27, 3) := by decide +kernel
theorem dL_cell_15 : decode cL_cell 15 = .ok (.aload_n 0, 1) := by decide +kernel
theorem dL_cell_16 : decode cL_cell 16 = .ok (.iload_n 1, 1) := by decide +kernel
theorem dL_cell_17 : decode cL_cell 17 = .ok (.aload_n 0, 1) := by decide +kernel
theorem dL_cell_18 : decode cL_cell 18 = .ok (.arraylength, 1) := by decide +kernel
theorem dL_cell_19 : decode cL_cell 19 = .ok (.irem, 1) := by decide +kernel
theorem dL_cell_20 : decode cL_cell 20 = .ok (.iaload, 1) := by decide +kernel
theorem dL_cell_21 : decode cL_cell 21 = .ok (.iload_n 1, 1) := by decide +kernel
theorem dL_cell_22 : decode cL_cell 22 = .ok (.bipush 7, 2) := by decide +kernel
theorem dL_cell_24 : decode cL_cell 24 = .ok (.irem, 1) := by decide +kernel
theorem dL_cell_25 : decode cL_cell 25 = .ok (.ishr, 1) := by decide +kernel
theorem dL_cell_26 : decode cL_cell 26 = .ok (.iload_n 1, 1) := by decide +kernel
theorem dL_cell_27 : decode cL_cell 27 = .ok (.aload_n 0, 1) := by decide +kernel
theorem dL_cell_28 : decode cL_cell 28 = .ok (.arraylength, 1) := by decide +kernel
theorem dL_cell_29 : decode cL_cell 29 = .ok (.idiv, 1) := by decide +kernel
theorem dL_cell_30 : decode cL_cell 30 = .ok (.bipush 31, 2) := by decide +kernel
theorem dL_cell_32 : decode cL_cell 32 = .ok (.imul, 1) := by decide +kernel
theorem dL_cell_33 : decode cL_cell 33 = .ok (.ixor, 1) := by decide +kernel
theorem dL_cell_34 : decode cL_cell 34 = .ok (.iload_n 1, 1) := by decide +kernel
theorem dL_cell_35 : decode cL_cell 35 = .ok (.ldc 8, 2) := by decide +kernel
theorem dL_cell_37 : decode cL_cell 37 = .ok (.imul, 1) := by decide +kernel
theorem dL_cell_38 : decode cL_cell 38 = .ok (.ixor, 1) := by decide +kernel
theorem dL_cell_39 : decode cL_cell 39 = .ok (.ireturn, 1) := by decide +kernel
theorem dL_size_0 : decode cL_size 0 = .ok (.iload_n 0, 1) := by decide +kernel
theorem dL_size_1 : decode cL_size 1 = .ok (.ifCond .ge 8, 3) := by decide +kernel
theorem dL_size_4 : decode cL_size 4 = .ok (.iload_n 0, 1) := by decide +kernel
theorem dL_size_5 : decode cL_size 5 = .ok (.ineg, 1) := by decide +kernel
theorem dL_size_6 : decode cL_size 6 = .ok (.goto 4, 3) := by decide +kernel
theorem dL_size_9 : decode cL_size 9 = .ok (.iload_n 0, 1) := by decide +kernel
theorem dL_size_10 : decode cL_size 10 = .ok (.ireturn, 1) := by decide +kernel
set_option maxRecDepth 20000 in
theorem ggL_number_X7_write : GoodIn wsL_number wsX7_write := goodIn_r _ [5, 6, 7, 8, 9, 4, 10, 11, 12, 13, 14, 15, 16, 17, 18, 19, 20, 21, 22, 23, 24, 25, 26, 27, 28, 29, 30, 31, 32, 33, 34] rfl (by decide +kernel)
set_option maxRecDepth 20000 in
theorem gL_number_X7_write : GoodIn wsL_number (wsV RL 9 RX7 yX7_write wsX7_write) := goodIn_app (goodIn_of _ (by decide +kernel)) ggL_number_X7_write
theorem dL_number_0 : decode cL_number 0 = .ok (.iload_n 1, 1) := by decide +kernel
theorem dL_number_1 : decode cL_number 1 = .ok (.bipush 99, 2) := by decide +kernel
theorem dL_number_3 : decode cL_number 3 = .ok (.if_icmp .le 15, 3) := by decide +kernel
theorem dL_number_6 : decode cL_number 6 = .ok (.aload_n 0, 1) := by decide +kernel
theorem dL_number_7 : decode cL_number 7 = .ok (.bipush 48, 2) := by decide +kernel
theorem dL_number_9 : decode cL_number 9 = .ok (.iload_n 1, 1) := by decide +kernel
theorem dL_number_10 : decode cL_number 10 = .ok (.bipush 100, 2) := by decide +kernel
theorem dL_number_12 : decode cL_number 12 = .ok (.idiv, 1) := by decide +kernel
theorem dL_number_13 : decode cL_number 13 = .ok (.iadd, 1) := by decide +kernel
theorem dL_number_14 : decode cL_number 14 = .ok (.invokevirtual 9, 3) := by decide +kernel
theorem dL_number_17 : decode cL_number 17 = .ok (.pop, 1) := by decide +kernel
theorem dL_number_18 : decode cL_number 18 = .ok (.iload_n 1, 1) := by decide +kernel
theorem dL_number_19 : decode cL_number 19 = .ok (.bipush 9, 2) := by decide +kernel
theorem dL_number_21 : decode cL_number 21 = .ok (.if_icmp .le 18, 3) := by decide +kernel
theorem dL_number_24 : decode cL_number 24 = .ok (.aload_n 0, 1) := by decide +kernel
theorem dL_number_25 : decode cL_number 25 = .ok (.bipush 48, 2) := by decide +kernel
theorem dL_number_27 : decode cL_number 27 = .ok (.iload_n 1, 1) := by decide +kernel
theorem dL_number_28 : decode cL_number 28 = .ok (.bipush 10, 2) := by decide +kernel
theorem dL_number_30 : decode cL_number 30 = .ok (.idiv, 1) := by decide +kernel
theorem dL_number_31 : decode cL_number 31 = .ok (.bipush 10, 2) := by decide +kernel
theorem dL_number_33 : decode cL_number 33 = .ok (.irem, 1) := by decide +kernel
theorem dL_number_34 : decode cL_number 34 = .ok (.iadd, 1) := by decide +kernel
theorem dL_number_35 : decode cL_number 35 = .ok (.invokevirtual 9, 3) := by decide +kernel
theorem dL_number_38 : decode cL_number 38 = .ok (.pop, 1) := by decide +kernel
theorem dL_number_39 : decode cL_number 39 = .ok (.aload_n 0, 1) := by decide +kernel
theorem dL_number_40 : decode cL_number 40 = .ok (.bipush 48, 2) := by decide +kernel
theorem dL_number_42 : decode cL_number 42 = .ok (.iload_n 1, 1) := by decide +kernel
theorem dL_number_43 : decode cL_number 43 = .ok (.bipush 10, 2) := by decide +kernel
theorem dL_number_45 : decode cL_number 45 = .ok (.irem, 1) := by decide +kernel
theorem dL_number_46 : decode cL_number 46 = .ok (.iadd, 1) := by decide +kernel
theorem dL_number_47 : decode cL_number 47 = .ok (.invokevirtual 9, 3) := by decide +kernel
theorem dL_number_50 : decode cL_number 50 = .ok (.pop, 1) := by decide +kernel
theorem dL_number_51 : decode cL_number 51 = .ok (.aload_n 0, 1) := by decide +kernel
theorem dL_number_52 : decode cL_number 52 = .ok (.iload_n 2, 1) := by decide +kernel
theorem dL_number_53 : decode cL_number 53 = .ok (.invokevirtual 9, 3) := by decide +kernel
theorem dL_number_56 : decode cL_number 56 = .ok (.pop, 1) := by decide +kernel
theorem dL_number_57 : decode cL_number 57 = .ok (.return_, 1) := by decide +kernel
set_option maxRecDepth 20000 in
theorem ggL_lays_X7_wipe : GoodIn wsL_lays wsX7_wipe := goodIn_r _ [5, 6, 7, 168, 169, 170, 171, 172, 173, 174, 175, 176, 177, 178, 179, 180] rfl (by decide +kernel)
set_option maxRecDepth 20000 in
theorem gL_lays_X7_wipe : GoodIn wsL_lays (wsV RL 17 RX7 yX7_wipe wsX7_wipe) := goodIn_app (goodIn_of _ (by decide +kernel)) ggL_lays_X7_wipe
set_option maxRecDepth 20000 in
theorem ggL_lays_L_cell : GoodIn wsL_lays wsL_cell := goodIn_r _ [11, 12] rfl (by decide +kernel)
set_option maxRecDepth 20000 in
theorem gL_lays_L_cell : GoodIn wsL_lays (va_wsS RL 21 yL_cell wsL_cell) := goodIn_app (goodIn_of _ (by decide +kernel)) ggL_lays_L_cell
set_option maxRecDepth 20000 in
theorem ggL_lays_L_part : GoodIn wsL_lays wsL_part := goodIn_r _ [15, 16] rfl (by decide +kernel)
set_option maxRecDepth 20000 in
theorem gL_lays_L_part : GoodIn wsL_lays (va_wsS RL 25 yL_part wsL_part) := goodIn_app (goodIn_of _ (by decide +kernel)) ggL_lays_L_part
set_option maxRecDepth 20000 in
theorem ggL_lays_X7_write : GoodIn wsL_lays wsX7_write := goodIn_r _ [20, 6, 7, 21, 22, 4, 23, 24, 25, 26, 27, 28, 29, 30, 31, 32, 33, 34, 168, 169, 170, 171, 172, 173, 174, 175, 176, 177, 178, 179, 180] rfl (by decide +kernel)
set_option maxRecDepth 20000 in
theorem gL_lays_X7_write : GoodIn wsL_lays (wsV RL 9 RX7 yX7_write wsX7_write) := goodIn_app (goodIn_of _ (by decide +kernel)) ggL_lays_X7_write
set_option maxRecDepth 20000 in
theorem ggL_lays_L_number : GoodIn wsL_lays wsL_number := goodIn_r _ [37, 17, 18, 19, 4, 20, 6, 7, 21, 22, 23, 24, 25, 26, 27, 28, 29, 30, 31, 32, 33, 34, 168, 169, 170, 171, 172, 173, 174, 175, 176, 177, 178, 179, 180] rfl (by decide +kernel)
set_option maxRecDepth 20000 in
theorem gL_lays_L_number : GoodIn wsL_lays (va_wsS RL 29 yL_number wsL_number) := goodIn_app (goodIn_of _ (by decide +kernel)) ggL_lays_L_number
set_option maxRecDepth 20000 in
theorem ggL_lays_X7_fault : GoodIn wsL_lays wsX7_fault := goodIn_r _ [41, 6, 42, 43, 44, 45, 27, 46, 47, 29, 48, 49, 50, 51, 52, 53, 54, 55, 56, 57, 58, 59, 60, 61, 62, 63, 64, 65, 66, 67, 68, 69, 70, 71, 72, 73, 74, 75, 34, 76, 77, 78, 79, 80, 81, 82, 83, 84, 22, 4, 23, 85, 86, 87, 88, 89, 90, 91, 92, 93, 94, 95, 96, 97, 98, 99, 100, 101, 102, 21, 103, 104, 105, 106, 107, 108, 109, 168, 169, 170, 171, 172, 173, 174, 175, 176, 177, 178, 179, 180, 181, 182, 183, 184, 185, 186, 187, 188, 189, 190] rfl (by decide +kernel)
set_option maxRecDepth 20000 in
theorem gL_lays_X7_fault : GoodIn wsL_lays (wsV RL 33 RX7 yX7_fault wsX7_fault) := goodIn_app (goodIn_of _ (by decide +kernel)) ggL_lays_X7_fault
set_option maxRecDepth 20000 in
theorem ggL_lays_X7_lay : GoodIn wsL_lays wsX7_lay := goodIn_r _ [113, 6, 42, 114, 115, 116, 117, 43, 44, 45, 27, 46, 47, 29, 48, 49, 50, 51, 52, 53, 54, 55, 56, 57, 58, 59, 60, 61, 62, 63, 64, 65, 66, 67, 68, 69, 70, 71, 72, 73, 74, 75, 34, 76, 77, 78, 79, 80, 81, 82, 83, 84, 22, 4, 23, 85, 86, 87, 88, 89, 90, 91, 92, 93, 94, 95, 96, 97, 98, 99, 100, 101, 102, 21, 103, 104, 105, 106, 107, 108, 109, 118, 119, 120, 121, 122, 123, 124, 125, 126, 127, 128, 129, 130, 131, 132, 133, 134, 135, 136, 137, 138, 139, 140, 141, 142, 143, 144, 145, 146, 147, 148, 149, 150, 151, 152, 153, 154, 155, 156, 157, 158, 159, 160, 161, 162, 163, 164, 165, 166, 167, 168, 169, 170, 171, 172, 173, 174, 175, 176, 177, 181, 182, 183, 184, 185, 186, 187, 178, 179, 180, 188, 189, 190, 191, 192, 193, 194, 195, 196, 197, 198, 199, 200, 201, 202, 203, 204, 205, 206, 207, 208, 209, 210, 211, 212, 213] rfl (by decide +kernel)
set_option maxRecDepth 20000 in
theorem gL_lays_X7_lay : GoodIn wsL_lays (wsV RL 36 RX7 yX7_lay wsX7_lay) := goodIn_app (goodIn_of _ (by decide +kernel)) ggL_lays_X7_lay
theorem dL_lays_0 : decode cL_lays 0 = .ok (.iconst 0, 1) := by decide +kernel
theorem dL_lays_1 : decode cL_lays 1 = .ok (.istore 4, 2) := by decide +kernel
theorem dL_lays_3 : decode cL_lays 3 = .ok (.iload 4, 2) := by decide +kernel
theorem dL_lays_5 : decode cL_lays 5 = .ok (.bipush 40, 2) := by decide +kernel
theorem dL_lays_7 : decode cL_lays 7 = .ok (.if_icmp .ge 14, 3) := by decide +kernel
theorem dL_lays_10 : decode cL_lays 10 = .ok (.aload_n 3, 1) := by decide +kernel
theorem dL_lays_11 : decode cL_lays 11 = .ok (.iload 4, 2) := by decide +kernel
theorem dL_lays_13 : decode cL_lays 13 = .ok (.iconst 0, 1) := by decide +kernel
theorem dL_lays_14 : decode cL_lays 14 = .ok (.iastore, 1) := by decide +kernel
theorem dL_lays_15 : decode cL_lays 15 = .ok (.iinc 4 1, 3) := by decide +kernel
theorem dL_lays_18 : decode cL_lays 18 = .ok (.goto (-15), 3) := by decide +kernel
theorem dL_lays_21 : decode cL_lays 21 = .ok (.aload_n 3, 1) := by decide +kernel
theorem dL_lays_22 : decode cL_lays 22 = .ok (.iconst 0, 1) := by decide +kernel
theorem dL_lays_23 : decode cL_lays 23 = .ok (.sipush 600, 3) := by decide +kernel
theorem dL_lays_26 : decode cL_lays 26 = .ok (.iastore, 1) := by decide +kernel
theorem dL_lays_27 : decode cL_lays 27 = .ok (.aload_n 3, 1) := by decide +kernel
theorem dL_lays_28 : decode cL_lays 28 = .ok (.iconst 1, 1) := by decide +kernel
theorem dL_lays_29 : decode cL_lays 29 = .ok (.bipush 40, 2) := by decide +kernel
theorem dL_lays_31 : decode cL_lays 31 = .ok (.iastore, 1) := by decide +kernel
theorem dL_lays_32 : decode cL_lays 32 = .ok (.aload_n 3, 1) := by decide +kernel
theorem dL_lays_33 : decode cL_lays 33 = .ok (.iconst 2, 1) := by decide +kernel
theorem dL_lays_34 : decode cL_lays 34 = .ok (.iconst 2, 1) := by decide +kernel
theorem dL_lays_35 : decode cL_lays 35 = .ok (.iastore, 1) := by decide +kernel
theorem dL_lays_36 : decode cL_lays 36 = .ok (.aload_n 3, 1) := by decide +kernel
theorem dL_lays_37 : decode cL_lays 37 = .ok (.iconst 3, 1) := by decide +kernel
theorem dL_lays_38 : decode cL_lays 38 = .ok (.bipush 12, 2) := by decide +kernel
theorem dL_lays_40 : decode cL_lays 40 = .ok (.iastore, 1) := by decide +kernel
theorem dL_lays_41 : decode cL_lays 41 = .ok (.aload_n 3, 1) := by decide +kernel
theorem dL_lays_42 : decode cL_lays 42 = .ok (.iconst 4, 1) := by decide +kernel
theorem dL_lays_43 : decode cL_lays 43 = .ok (.bipush 6, 2) := by decide +kernel
theorem dL_lays_45 : decode cL_lays 45 = .ok (.iastore, 1) := by decide +kernel
theorem dL_lays_46 : decode cL_lays 46 = .ok (.aload_n 3, 1) := by decide +kernel
theorem dL_lays_47 : decode cL_lays 47 = .ok (.iconst 5, 1) := by decide +kernel
theorem dL_lays_48 : decode cL_lays 48 = .ok (.bipush (-4), 2) := by decide +kernel
theorem dL_lays_50 : decode cL_lays 50 = .ok (.iastore, 1) := by decide +kernel
theorem dL_lays_51 : decode cL_lays 51 = .ok (.aload_n 0, 1) := by decide +kernel
theorem dL_lays_52 : decode cL_lays 52 = .ok (.invokevirtual 17, 3) := by decide +kernel
theorem dL_lays_55 : decode cL_lays 55 = .ok (.pop, 1) := by decide +kernel
theorem dL_lays_56 : decode cL_lays 56 = .ok (.aload_n 1, 1) := by decide +kernel
theorem dL_lays_57 : decode cL_lays 57 = .ok (.iload_n 2, 1) := by decide +kernel
theorem dL_lays_58 : decode cL_lays 58 = .ok (.invokestatic 21, 3) := by decide +kernel
theorem dL_lays_61 : decode cL_lays 61 = .ok (.istore 4, 2) := by decide +kernel
theorem dL_lays_63 : decode cL_lays 63 = .ok (.iload 4, 2) := by decide +kernel
theorem dL_lays_65 : decode cL_lays 65 = .ok (.iconst 3, 1) := by decide +kernel
theorem dL_lays_66 : decode cL_lays 66 = .ok (.invokestatic 25, 3) := by decide +kernel
theorem dL_lays_69 : decode cL_lays 69 = .ok (.ifCond .le 53, 3) := by decide +kernel
theorem dL_lays_72 : decode cL_lays 72 = .ok (.aload_n 3, 1) := by decide +kernel
theorem dL_lays_73 : decode cL_lays 73 = .ok (.iconst 0, 1) := by decide +kernel
theorem dL_lays_74 : decode cL_lays 74 = .ok (.sipush 200, 3) := by decide +kernel
theorem dL_lays_77 : decode cL_lays 77 = .ok (.iload 4, 2) := by decide +kernel
theorem dL_lays_79 : decode cL_lays 79 = .ok (.iconst 2, 1) := by decide +kernel
theorem dL_lays_80 : decode cL_lays 80 = .ok (.ishr, 1) := by decide +kernel
theorem dL_lays_81 : decode cL_lays 81 = .ok (.iload 4, 2) := by decide +kernel
theorem dL_lays_83 : decode cL_lays 83 = .ok (.iconst 5, 1) := by decide +kernel
theorem dL_lays_84 : decode cL_lays 84 = .ok (.ishr, 1) := by decide +kernel
theorem dL_lays_85 : decode cL_lays 85 = .ok (.iconst 3, 1) := by decide +kernel
theorem dL_lays_86 : decode cL_lays 86 = .ok (.invokestatic 25, 3) := by decide +kernel
theorem dL_lays_89 : decode cL_lays 89 = .ok (.ifCond .ne 9, 3) := by decide +kernel
theorem dL_lays_92 : decode cL_lays 92 = .ok (.sipush 800, 3) := by decide +kernel
theorem dL_lays_95 : decode cL_lays 95 = .ok (.goto 6, 3) := by decide +kernel
theorem dL_lays_98 : decode cL_lays 98 = .ok (.sipush 150, 3) := by decide +kernel
theorem dL_lays_101 : decode cL_lays 101 = .ok (.invokestatic 25, 3) := by decide +kernel
theorem dL_lays_104 : decode cL_lays 104 = .ok (.iadd, 1) := by decide +kernel
theorem dL_lays_105 : decode cL_lays 105 = .ok (.iastore, 1) := by decide +kernel
theorem dL_lays_106 : decode cL_lays 106 = .ok (.aload_n 0, 1) := by decide +kernel
theorem dL_lays_107 : decode cL_lays 107 = .ok (.bipush 101, 2) := by decide +kernel
theorem dL_lays_109 : decode cL_lays 109 = .ok (.invokevirtual 9, 3) := by decide +kernel
theorem dL_lays_112 : decode cL_lays 112 = .ok (.pop, 1) := by decide +kernel
theorem dL_lays_113 : decode cL_lays 113 = .ok (.aload_n 0, 1) := by decide +kernel
theorem dL_lays_114 : decode cL_lays 114 = .ok (.aload_n 3, 1) := by decide +kernel
theorem dL_lays_115 : decode cL_lays 115 = .ok (.iconst 0, 1) := by decide +kernel
theorem dL_lays_116 : decode cL_lays 116 = .ok (.iaload, 1) := by decide +kernel
theorem dL_lays_117 : decode cL_lays 117 = .ok (.bipush 59, 2) := by decide +kernel
theorem dL_lays_119 : decode cL_lays 119 = .ok (.invokestatic 29, 3) := by decide +kernel
theorem dL_lays_122 : decode cL_lays 122 = .ok (.iload 4, 2) := by decide +kernel
theorem dL_lays_124 : decode cL_lays 124 = .ok (.iconst 3, 1) := by decide +kernel
theorem dL_lays_125 : decode cL_lays 125 = .ok (.ishr, 1) := by decide +kernel
theorem dL_lays_126 : decode cL_lays 126 = .ok (.iconst 3, 1) := by decide +kernel
theorem dL_lays_127 : decode cL_lays 127 = .ok (.invokestatic 25, 3) := by decide +kernel
theorem dL_lays_130 : decode cL_lays 130 = .ok (.ifCond .le 34, 3) := by decide +kernel
theorem dL_lays_133 : decode cL_lays 133 = .ok (.aload_n 3, 1) := by decide +kernel
theorem dL_lays_134 : decode cL_lays 134 = .ok (.iconst 1, 1) := by decide +kernel
theorem dL_lays_135 : decode cL_lays 135 = .ok (.bipush 10, 2) := by decide +kernel
theorem dL_lays_137 : decode cL_lays 137 = .ok (.iload 4, 2) := by decide +kernel
theorem dL_lays_139 : decode cL_lays 139 = .ok (.iconst 4, 1) := by decide +kernel
theorem dL_lays_140 : decode cL_lays 140 = .ok (.ishr, 1) := by decide +kernel
theorem dL_lays_141 : decode cL_lays 141 = .ok (.bipush 60, 2) := by decide +kernel
theorem dL_lays_143 : decode cL_lays 143 = .ok (.invokestatic 25, 3) := by decide +kernel
theorem dL_lays_146 : decode cL_lays 146 = .ok (.iadd, 1) := by decide +kernel
theorem dL_lays_147 : decode cL_lays 147 = .ok (.iastore, 1) := by decide +kernel
theorem dL_lays_148 : decode cL_lays 148 = .ok (.aload_n 0, 1) := by decide +kernel
theorem dL_lays_149 : decode cL_lays 149 = .ok (.bipush 103, 2) := by decide +kernel
theorem dL_lays_151 : decode cL_lays 151 = .ok (.invokevirtual 9, 3) := by decide +kernel
theorem dL_lays_154 : decode cL_lays 154 = .ok (.pop, 1) := by decide +kernel
theorem dL_lays_155 : decode cL_lays 155 = .ok (.aload_n 0, 1) := by decide +kernel
theorem dL_lays_156 : decode cL_lays 156 = .ok (.aload_n 3, 1) := by decide +kernel
theorem dL_lays_157 : decode cL_lays 157 = .ok (.iconst 1, 1) := by decide +kernel
theorem dL_lays_158 : decode cL_lays 158 = .ok (.iaload, 1) := by decide +kernel
theorem dL_lays_159 : decode cL_lays 159 = .ok (.bipush 59, 2) := by decide +kernel
theorem dL_lays_161 : decode cL_lays 161 = .ok (.invokestatic 29, 3) := by decide +kernel
theorem dL_lays_164 : decode cL_lays 164 = .ok (.iload 4, 2) := by decide +kernel
theorem dL_lays_166 : decode cL_lays 166 = .ok (.bipush 6, 2) := by decide +kernel
theorem dL_lays_168 : decode cL_lays 168 = .ok (.ishr, 1) := by decide +kernel
theorem dL_lays_169 : decode cL_lays 169 = .ok (.iconst 4, 1) := by decide +kernel
theorem dL_lays_170 : decode cL_lays 170 = .ok (.invokestatic 25, 3) := by decide +kernel
theorem dL_lays_173 : decode cL_lays 173 = .ok (.ifCond .le 96, 3) := by decide +kernel
theorem dL_lays_176 : decode cL_lays 176 = .ok (.aload_n 3, 1) := by decide +kernel
theorem dL_lays_177 : decode cL_lays 177 = .ok (.iconst 2, 1) := by decide +kernel
theorem dL_lays_178 : decode cL_lays 178 = .ok (.iconst 1, 1) := by decide +kernel
theorem dL_lays_179 : decode cL_lays 179 = .ok (.iload 4, 2) := by decide +kernel
theorem dL_lays_181 : decode cL_lays 181 = .ok (.bipush 7, 2) := by decide +kernel
theorem dL_lays_183 : decode cL_lays 183 = .ok (.ishr, 1) := by decide +kernel
theorem dL_lays_184 : decode cL_lays 184 = .ok (.iconst 5, 1) := by decide +kernel
theorem dL_lays_185 : decode cL_lays 185 = .ok (.invokestatic 25, 3) := by decide +kernel
theorem dL_lays_188 : decode cL_lays 188 = .ok (.iadd, 1) := by decide +kernel
theorem dL_lays_189 : decode cL_lays 189 = .ok (.iastore, 1) := by decide +kernel
theorem dL_lays_190 : decode cL_lays 190 = .ok (.aload_n 3, 1) := by decide +kernel
theorem dL_lays_191 : decode cL_lays 191 = .ok (.iconst 3, 1) := by decide +kernel
theorem dL_lays_192 : decode cL_lays 192 = .ok (.iconst 1, 1) := by decide +kernel
theorem dL_lays_193 : decode cL_lays 193 = .ok (.iload 4, 2) := by decide +kernel
theorem dL_lays_195 : decode cL_lays 195 = .ok (.bipush 8, 2) := by decide +kernel
theorem dL_lays_197 : decode cL_lays 197 = .ok (.ishr, 1) := by decide +kernel
theorem dL_lays_198 : decode cL_lays 198 = .ok (.iload 4, 2) := by decide +kernel
theorem dL_lays_200 : decode cL_lays 200 = .ok (.bipush 9, 2) := by decide +kernel
theorem dL_lays_202 : decode cL_lays 202 = .ok (.ishr, 1) := by decide +kernel
theorem dL_lays_203 : decode cL_lays 203 = .ok (.iconst 2, 1) := by decide +kernel
theorem dL_lays_204 : decode cL_lays 204 = .ok (.invokestatic 25, 3) := by decide +kernel
theorem dL_lays_207 : decode cL_lays 207 = .ok (.ifCond .ne 8, 3) := by decide +kernel
theorem dL_lays_210 : decode cL_lays 210 = .ok (.bipush 40, 2) := by decide +kernel
theorem dL_lays_212 : decode cL_lays 212 = .ok (.goto 5, 3) := by decide +kernel
theorem dL_lays_215 : decode cL_lays 215 = .ok (.bipush 15, 2) := by decide +kernel
theorem dL_lays_217 : decode cL_lays 217 = .ok (.invokestatic 25, 3) := by decide +kernel
theorem dL_lays_220 : decode cL_lays 220 = .ok (.iadd, 1) := by decide +kernel
theorem dL_lays_221 : decode cL_lays 221 = .ok (.iastore, 1) := by decide +kernel
theorem dL_lays_222 : decode cL_lays 222 = .ok (.aload_n 3, 1) := by decide +kernel
theorem dL_lays_223 : decode cL_lays 223 = .ok (.iconst 4, 1) := by decide +kernel
theorem dL_lays_224 : decode cL_lays 224 = .ok (.iload 4, 2) := by decide +kernel
theorem dL_lays_226 : decode cL_lays 226 = .ok (.bipush 10, 2) := by decide +kernel
theorem dL_lays_228 : decode cL_lays 228 = .ok (.ishr, 1) := by decide +kernel
theorem dL_lays_229 : decode cL_lays 229 = .ok (.bipush 12, 2) := by decide +kernel
theorem dL_lays_231 : decode cL_lays 231 = .ok (.invokestatic 25, 3) := by decide +kernel
theorem dL_lays_234 : decode cL_lays 234 = .ok (.iastore, 1) := by decide +kernel
theorem dL_lays_235 : decode cL_lays 235 = .ok (.aload_n 0, 1) := by decide +kernel
theorem dL_lays_236 : decode cL_lays 236 = .ok (.bipush 107, 2) := by decide +kernel
theorem dL_lays_238 : decode cL_lays 238 = .ok (.invokevirtual 9, 3) := by decide +kernel
theorem dL_lays_241 : decode cL_lays 241 = .ok (.pop, 1) := by decide +kernel
theorem dL_lays_242 : decode cL_lays 242 = .ok (.aload_n 0, 1) := by decide +kernel
theorem dL_lays_243 : decode cL_lays 243 = .ok (.aload_n 3, 1) := by decide +kernel
theorem dL_lays_244 : decode cL_lays 244 = .ok (.iconst 2, 1) := by decide +kernel
theorem dL_lays_245 : decode cL_lays 245 = .ok (.iaload, 1) := by decide +kernel
theorem dL_lays_246 : decode cL_lays 246 = .ok (.bipush 44, 2) := by decide +kernel
theorem dL_lays_248 : decode cL_lays 248 = .ok (.invokestatic 29, 3) := by decide +kernel
theorem dL_lays_251 : decode cL_lays 251 = .ok (.aload_n 0, 1) := by decide +kernel
theorem dL_lays_252 : decode cL_lays 252 = .ok (.aload_n 3, 1) := by decide +kernel
theorem dL_lays_253 : decode cL_lays 253 = .ok (.iconst 3, 1) := by decide +kernel
theorem dL_lays_254 : decode cL_lays 254 = .ok (.iaload, 1) := by decide +kernel
theorem dL_lays_255 : decode cL_lays 255 = .ok (.bipush 44, 2) := by decide +kernel
theorem dL_lays_257 : decode cL_lays 257 = .ok (.invokestatic 29, 3) := by decide +kernel
theorem dL_lays_260 : decode cL_lays 260 = .ok (.aload_n 0, 1) := by decide +kernel
theorem dL_lays_261 : decode cL_lays 261 = .ok (.aload_n 3, 1) := by decide +kernel
theorem dL_lays_262 : decode cL_lays 262 = .ok (.iconst 4, 1) := by decide +kernel
theorem dL_lays_263 : decode cL_lays 263 = .ok (.iaload, 1) := by decide +kernel
theorem dL_lays_264 : decode cL_lays 264 = .ok (.bipush 59, 2) := by decide +kernel
theorem dL_lays_266 : decode cL_lays 266 = .ok (.invokestatic 29, 3) := by decide +kernel
theorem dL_lays_269 : decode cL_lays 269 = .ok (.iconst 0, 1) := by decide +kernel
theorem dL_lays_270 : decode cL_lays 270 = .ok (.istore 5, 2) := by decide +kernel
theorem dL_lays_272 : decode cL_lays 272 = .ok (.iload 5, 2) := by decide +kernel
theorem dL_lays_274 : decode cL_lays 274 = .ok (.iconst 2, 1) := by decide +kernel
theorem dL_lays_275 : decode cL_lays 275 = .ok (.if_icmp .ge 196, 3) := by decide +kernel
theorem dL_lays_278 : decode cL_lays 278 = .ok (.aload_n 1, 1) := by decide +kernel
theorem dL_lays_279 : decode cL_lays 279 = .ok (.iload_n 2, 1) := by decide +kernel
theorem dL_lays_280 : decode cL_lays 280 = .ok (.iconst 1, 1) := by decide +kernel
theorem dL_lays_281 : decode cL_lays 281 = .ok (.iadd, 1) := by decide +kernel
theorem dL_lays_282 : decode cL_lays 282 = .ok (.iload 5, 2) := by decide +kernel
theorem dL_lays_284 : decode cL_lays 284 = .ok (.iadd, 1) := by decide +kernel
theorem dL_lays_285 : decode cL_lays 285 = .ok (.invokestatic 21, 3) := by decide +kernel
theorem dL_lays_288 : decode cL_lays 288 = .ok (.istore 6, 2) := by decide +kernel
theorem dL_lays_290 : decode cL_lays 290 = .ok (.bipush 8, 2) := by decide +kernel
theorem dL_lays_292 : decode cL_lays 292 = .ok (.bipush 12, 2) := by decide +kernel
theorem dL_lays_294 : decode cL_lays 294 = .ok (.iload 5, 2) := by decide +kernel
theorem dL_lays_296 : decode cL_lays 296 = .ok (.imul, 1) := by decide +kernel
theorem dL_lays_297 : decode cL_lays 297 = .ok (.iadd, 1) := by decide +kernel
theorem dL_lays_298 : decode cL_lays 298 = .ok (.istore 7, 2) := by decide +kernel
theorem dL_lays_300 : decode cL_lays 300 = .ok (.aload_n 3, 1) := by decide +kernel
theorem dL_lays_301 : decode cL_lays 301 = .ok (.iconst 0, 1) := by decide +kernel
theorem dL_lays_302 : decode cL_lays 302 = .ok (.iaload, 1) := by decide +kernel
theorem dL_lays_303 : decode cL_lays 303 = .ok (.aload_n 3, 1) := by decide +kernel
theorem dL_lays_304 : decode cL_lays 304 = .ok (.iconst 1, 1) := by decide +kernel
theorem dL_lays_305 : decode cL_lays 305 = .ok (.iaload, 1) := by decide +kernel
theorem dL_lays_306 : decode cL_lays 306 = .ok (.isub, 1) := by decide +kernel
theorem dL_lays_307 : decode cL_lays 307 = .ok (.istore 8, 2) := by decide +kernel
theorem dL_lays_309 : decode cL_lays 309 = .ok (.aload_n 3, 1) := by decide +kernel
theorem dL_lays_310 : decode cL_lays 310 = .ok (.iload 7, 2) := by decide +kernel
theorem dL_lays_312 : decode cL_lays 312 = .ok (.iload 5, 2) := by decide +kernel
theorem dL_lays_314 : decode cL_lays 314 = .ok (.ifCond .ne 15, 3) := by decide +kernel
theorem dL_lays_317 : decode cL_lays 317 = .ok (.iload 6, 2) := by decide +kernel
theorem dL_lays_319 : decode cL_lays 319 = .ok (.iload 8, 2) := by decide +kernel
theorem dL_lays_321 : decode cL_lays 321 = .ok (.iconst 1, 1) := by decide +kernel
theorem dL_lays_322 : decode cL_lays 322 = .ok (.iadd, 1) := by decide +kernel
theorem dL_lays_323 : decode cL_lays 323 = .ok (.invokestatic 25, 3) := by decide +kernel
theorem dL_lays_326 : decode cL_lays 326 = .ok (.goto 26, 3) := by decide +kernel
theorem dL_lays_329 : decode cL_lays 329 = .ok (.aload_n 3, 1) := by decide +kernel
theorem dL_lays_330 : decode cL_lays 330 = .ok (.bipush 8, 2) := by decide +kernel
theorem dL_lays_332 : decode cL_lays 332 = .ok (.iaload, 1) := by decide +kernel
theorem dL_lays_333 : decode cL_lays 333 = .ok (.aload_n 3, 1) := by decide +kernel
theorem dL_lays_334 : decode cL_lays 334 = .ok (.iconst 1, 1) := by decide +kernel
theorem dL_lays_335 : decode cL_lays 335 = .ok (.iaload, 1) := by decide +kernel
theorem dL_lays_336 : decode cL_lays 336 = .ok (.iadd, 1) := by decide +kernel
theorem dL_lays_337 : decode cL_lays 337 = .ok (.iload 6, 2) := by decide +kernel
theorem dL_lays_339 : decode cL_lays 339 = .ok (.iload 8, 2) := by decide +kernel
theorem dL_lays_341 : decode cL_lays 341 = .ok (.aload_n 3, 1) := by decide +kernel
theorem dL_lays_342 : decode cL_lays 342 = .ok (.bipush 8, 2) := by decide +kernel
theorem dL_lays_344 : decode cL_lays 344 = .ok (.iaload, 1) := by decide +kernel
theorem dL_lays_345 : decode cL_lays 345 = .ok (.isub, 1) := by decide +kernel
theorem dL_lays_346 : decode cL_lays 346 = .ok (.iconst 1, 1) := by decide +kernel
theorem dL_lays_347 : decode cL_lays 347 = .ok (.iadd, 1) := by decide +kernel
theorem dL_lays_348 : decode cL_lays 348 = .ok (.invokestatic 25, 3) := by decide +kernel
theorem dL_lays_351 : decode cL_lays 351 = .ok (.iadd, 1) := by decide +kernel
theorem dL_lays_352 : decode cL_lays 352 = .ok (.iastore, 1) := by decide +kernel
theorem dL_lays_353 : decode cL_lays 353 = .ok (.aload_n 3, 1) := by decide +kernel
theorem dL_lays_354 : decode cL_lays 354 = .ok (.iload 7, 2) := by decide +kernel
theorem dL_lays_356 : decode cL_lays 356 = .ok (.iconst 2, 1) := by decide +kernel
theorem dL_lays_357 : decode cL_lays 357 = .ok (.iadd, 1) := by decide +kernel
theorem dL_lays_358 : decode cL_lays 358 = .ok (.bipush 10, 2) := by decide +kernel
theorem dL_lays_360 : decode cL_lays 360 = .ok (.iload 6, 2) := by decide +kernel
theorem dL_lays_362 : decode cL_lays 362 = .ok (.iconst 5, 1) := by decide +kernel
theorem dL_lays_363 : decode cL_lays 363 = .ok (.ishr, 1) := by decide +kernel
theorem dL_lays_364 : decode cL_lays 364 = .ok (.bipush 51, 2) := by decide +kernel
theorem dL_lays_366 : decode cL_lays 366 = .ok (.invokestatic 25, 3) := by decide +kernel
theorem dL_lays_369 : decode cL_lays 369 = .ok (.iadd, 1) := by decide +kernel
theorem dL_lays_370 : decode cL_lays 370 = .ok (.iastore, 1) := by decide +kernel
theorem dL_lays_371 : decode cL_lays 371 = .ok (.aload_n 3, 1) := by decide +kernel
theorem dL_lays_372 : decode cL_lays 372 = .ok (.iload 7, 2) := by decide +kernel
theorem dL_lays_374 : decode cL_lays 374 = .ok (.iconst 3, 1) := by decide +kernel
theorem dL_lays_375 : decode cL_lays 375 = .ok (.iadd, 1) := by decide +kernel
theorem dL_lays_376 : decode cL_lays 376 = .ok (.iload 6, 2) := by decide +kernel
theorem dL_lays_378 : decode cL_lays 378 = .ok (.bipush 7, 2) := by decide +kernel
theorem dL_lays_380 : decode cL_lays 380 = .ok (.ishr, 1) := by decide +kernel
theorem dL_lays_381 : decode cL_lays 381 = .ok (.iconst 3, 1) := by decide +kernel
theorem dL_lays_382 : decode cL_lays 382 = .ok (.invokestatic 25, 3) := by decide +kernel
theorem dL_lays_385 : decode cL_lays 385 = .ok (.ifCond .ne 16, 3) := by decide +kernel
theorem dL_lays_388 : decode cL_lays 388 = .ok (.iload 6, 2) := by decide +kernel
theorem dL_lays_390 : decode cL_lays 390 = .ok (.bipush 9, 2) := by decide +kernel
theorem dL_lays_392 : decode cL_lays 392 = .ok (.ishr, 1) := by decide +kernel
theorem dL_lays_393 : decode cL_lays 393 = .ok (.bipush 100, 2) := by decide +kernel
theorem dL_lays_395 : decode cL_lays 395 = .ok (.invokestatic 25, 3) := by decide +kernel
theorem dL_lays_398 : decode cL_lays 398 = .ok (.goto 4, 3) := by decide +kernel
theorem dL_lays_401 : decode cL_lays 401 = .ok (.iconst 0, 1) := by decide +kernel
theorem dL_lays_402 : decode cL_lays 402 = .ok (.iastore, 1) := by decide +kernel
theorem dL_lays_403 : decode cL_lays 403 = .ok (.aload_n 3, 1) := by decide +kernel
theorem dL_lays_404 : decode cL_lays 404 = .ok (.iload 7, 2) := by decide +kernel
theorem dL_lays_406 : decode cL_lays 406 = .ok (.bipush 7, 2) := by decide +kernel
theorem dL_lays_408 : decode cL_lays 408 = .ok (.iadd, 1) := by decide +kernel
theorem dL_lays_409 : decode cL_lays 409 = .ok (.aload_n 3, 1) := by decide +kernel
theorem dL_lays_410 : decode cL_lays 410 = .ok (.iload 7, 2) := by decide +kernel
theorem dL_lays_412 : decode cL_lays 412 = .ok (.iconst 2, 1) := by decide +kernel
theorem dL_lays_413 : decode cL_lays 413 = .ok (.iadd, 1) := by decide +kernel
theorem dL_lays_414 : decode cL_lays 414 = .ok (.iaload, 1) := by decide +kernel
theorem dL_lays_415 : decode cL_lays 415 = .ok (.iastore, 1) := by decide +kernel
theorem dL_lays_416 : decode cL_lays 416 = .ok (.aload_n 0, 1) := by decide +kernel
theorem dL_lays_417 : decode cL_lays 417 = .ok (.bipush 99, 2) := by decide +kernel
theorem dL_lays_419 : decode cL_lays 419 = .ok (.invokevirtual 9, 3) := by decide +kernel
theorem dL_lays_422 : decode cL_lays 422 = .ok (.pop, 1) := by decide +kernel
theorem dL_lays_423 : decode cL_lays 423 = .ok (.aload_n 0, 1) := by decide +kernel
theorem dL_lays_424 : decode cL_lays 424 = .ok (.iload 5, 2) := by decide +kernel
theorem dL_lays_426 : decode cL_lays 426 = .ok (.bipush 44, 2) := by decide +kernel
theorem dL_lays_428 : decode cL_lays 428 = .ok (.invokestatic 29, 3) := by decide +kernel
theorem dL_lays_431 : decode cL_lays 431 = .ok (.aload_n 0, 1) := by decide +kernel
theorem dL_lays_432 : decode cL_lays 432 = .ok (.aload_n 3, 1) := by decide +kernel
theorem dL_lays_433 : decode cL_lays 433 = .ok (.iload 7, 2) := by decide +kernel
theorem dL_lays_435 : decode cL_lays 435 = .ok (.iaload, 1) := by decide +kernel
theorem dL_lays_436 : decode cL_lays 436 = .ok (.bipush 44, 2) := by decide +kernel
theorem dL_lays_438 : decode cL_lays 438 = .ok (.invokestatic 29, 3) := by decide +kernel
theorem dL_lays_441 : decode cL_lays 441 = .ok (.aload_n 0, 1) := by decide +kernel
theorem dL_lays_442 : decode cL_lays 442 = .ok (.aload_n 3, 1) := by decide +kernel
theorem dL_lays_443 : decode cL_lays 443 = .ok (.iload 7, 2) := by decide +kernel
theorem dL_lays_445 : decode cL_lays 445 = .ok (.iconst 2, 1) := by decide +kernel
theorem dL_lays_446 : decode cL_lays 446 = .ok (.iadd, 1) := by decide +kernel
theorem dL_lays_447 : decode cL_lays 447 = .ok (.iaload, 1) := by decide +kernel
theorem dL_lays_448 : decode cL_lays 448 = .ok (.bipush 44, 2) := by decide +kernel
theorem dL_lays_450 : decode cL_lays 450 = .ok (.invokestatic 29, 3) := by decide +kernel
theorem dL_lays_453 : decode cL_lays 453 = .ok (.aload_n 0, 1) := by decide +kernel
theorem dL_lays_454 : decode cL_lays 454 = .ok (.aload_n 3, 1) := by decide +kernel
theorem dL_lays_455 : decode cL_lays 455 = .ok (.iload 7, 2) := by decide +kernel
theorem dL_lays_457 : decode cL_lays 457 = .ok (.iconst 3, 1) := by decide +kernel
theorem dL_lays_458 : decode cL_lays 458 = .ok (.iadd, 1) := by decide +kernel
theorem dL_lays_459 : decode cL_lays 459 = .ok (.iaload, 1) := by decide +kernel
theorem dL_lays_460 : decode cL_lays 460 = .ok (.bipush 59, 2) := by decide +kernel
theorem dL_lays_462 : decode cL_lays 462 = .ok (.invokestatic 29, 3) := by decide +kernel
theorem dL_lays_465 : decode cL_lays 465 = .ok (.iinc 5 1, 3) := by decide +kernel
theorem dL_lays_468 : decode cL_lays 468 = .ok (.goto (-196), 3) := by decide +kernel
theorem dL_lays_471 : decode cL_lays 471 = .ok (.aload_n 0, 1) := by decide +kernel
theorem dL_lays_472 : decode cL_lays 472 = .ok (.invokevirtual 33, 3) := by decide +kernel
theorem dL_lays_475 : decode cL_lays 475 = .ok (.bipush (-4), 2) := by decide +kernel
theorem dL_lays_477 : decode cL_lays 477 = .ok (.if_icmp .ne 17, 3) := by decide +kernel
theorem dL_lays_480 : decode cL_lays 480 = .ok (.aload_n 0, 1) := by decide +kernel
theorem dL_lays_481 : decode cL_lays 481 = .ok (.invokevirtual 36, 3) := by decide +kernel
theorem dL_lays_484 : decode cL_lays 484 = .ok (.aload_n 3, 1) := by decide +kernel
theorem dL_lays_485 : decode cL_lays 485 = .ok (.iconst 0, 1) := by decide +kernel
theorem dL_lays_486 : decode cL_lays 486 = .ok (.iaload, 1) := by decide +kernel
theorem dL_lays_487 : decode cL_lays 487 = .ok (.if_icmp .ne 7, 3) := by decide +kernel
theorem dL_lays_490 : decode cL_lays 490 = .ok (.iconst 1, 1) := by decide +kernel
theorem dL_lays_491 : decode cL_lays 491 = .ok (.goto 4, 3) := by decide +kernel
theorem dL_lays_494 : decode cL_lays 494 = .ok (.iconst 0, 1) := by decide +kernel
theorem dL_lays_495 : decode cL_lays 495 = .ok (.ireturn, 1) := by decide +kernel
set_option maxRecDepth 20000 in
theorem ggL_whole_X7_count : GoodIn wsL_whole wsX7_count := goodIn_r _ [7, 8, 9, 10, 11, 12, 13, 14, 15, 16, 17, 18, 19, 20, 21, 22, 23, 24, 25, 26, 27, 28, 29, 139, 140, 141, 142, 143, 144, 145, 146, 147, 148, 149, 150, 151, 152, 153, 154, 155, 156, 157, 158, 159, 160, 161, 162, 163, 164, 165, 166, 167, 168, 169, 170, 171, 172, 173, 174, 175, 176, 177, 178] rfl (by decide +kernel)
set_option maxRecDepth 20000 in
theorem gL_whole_X7_count : GoodIn wsL_whole (wsV RL 43 RX7 yX7_count wsX7_count) := goodIn_app (goodIn_of _ (by decide +kernel)) ggL_whole_X7_count
set_option maxRecDepth 20000 in
theorem ggL_whole_X7_crane : GoodIn wsL_whole wsX7_crane := goodIn_r _ [33, 14, 15, 34, 35, 36, 37, 38, 39, 40, 41, 42, 8, 11, 43, 44, 6, 45, 46, 47, 48, 24, 49, 28, 26, 50, 51, 52, 53, 54, 55, 56, 57, 58, 59, 60, 61, 62, 63, 64, 65, 66, 67, 68, 69, 70, 71, 72, 73, 74, 75, 76, 77, 78, 79, 80, 81, 82, 83, 84, 85, 139, 140, 141, 142, 143, 144, 145, 146, 147, 148, 156, 157, 158, 159, 166, 167, 168, 169, 170, 171, 172, 173, 174, 175, 176, 177, 178, 149, 150, 151, 152, 153, 154, 155, 160, 161, 162] rfl (by decide +kernel)
set_option maxRecDepth 20000 in
theorem gL_whole_X7_crane : GoodIn wsL_whole (wsV RL 46 RX7 yX7_crane wsX7_crane) := goodIn_app (goodIn_of _ (by decide +kernel)) ggL_whole_X7_crane
set_option maxRecDepth 20000 in
theorem ggL_whole_X7_stepOf : GoodIn wsL_whole wsX7_stepOf := goodIn_r _ [89, 14, 15, 36, 43, 44, 6, 45, 90, 91, 92, 46, 47, 48, 24, 49, 28, 26, 61, 62, 63, 53, 64, 65, 66, 93, 94, 95, 96, 97, 98, 99, 100, 101, 102, 103, 104, 105, 106, 139, 140, 141, 142, 143, 144, 145, 146, 147, 148, 156, 157, 158, 159, 160, 161, 162, 166, 167, 168, 169, 170, 171, 172, 173, 174, 175, 176, 177, 178] rfl (by decide +kernel)
set_option maxRecDepth 20000 in
theorem gL_whole_X7_stepOf : GoodIn wsL_whole (wsV RL 49 RX7 yX7_stepOf wsX7_stepOf) := goodIn_app (goodIn_of _ (by decide +kernel)) ggL_whole_X7_stepOf
set_option maxRecDepth 20000 in
theorem ggL_whole_X7_spot : GoodIn wsL_whole wsX7_spot := goodIn_r _ [110, 14, 111, 43, 44, 6, 45, 90, 91, 92, 112, 113, 114, 115, 116, 117, 118, 119, 120, 121, 122, 123, 124, 125, 126, 127, 128, 129, 130, 131, 132, 133, 134, 135, 136, 137, 138, 139, 140, 141, 142, 143, 144, 145, 146, 147, 148, 179, 180, 181, 156, 157, 158, 159] rfl (by decide +kernel)
set_option maxRecDepth 20000 in
theorem gL_whole_X7_spot : GoodIn wsL_whole (wsV RL 53 RX7 yX7_spot wsX7_spot) := goodIn_app (goodIn_of _ (by decide +kernel)) ggL_whole_X7_spot
theorem dL_whole_0 : decode cL_whole 0 = .ok (.ldc2_w 39, 3) := by decide +kernel
theorem dL_whole_3 : decode cL_whole 3 = .ok (.lstore_n 1, 1) := by decide +kernel
theorem dL_whole_4 : decode cL_whole 4 = .ok (.iconst 0, 1) := by decide +kernel
theorem dL_whole_5 : decode cL_whole 5 = .ok (.istore_n 3, 1) := by decide +kernel
theorem dL_whole_6 : decode cL_whole 6 = .ok (.iload_n 3, 1) := by decide +kernel
theorem dL_whole_7 : decode cL_whole 7 = .ok (.bipush 7, 2) := by decide +kernel
theorem dL_whole_9 : decode cL_whole 9 = .ok (.if_icmp .ge 22, 3) := by decide +kernel
theorem dL_whole_12 : decode cL_whole 12 = .ok (.ldc2_w 41, 3) := by decide +kernel
theorem dL_whole_15 : decode cL_whole 15 = .ok (.lload_n 1, 1) := by decide +kernel
theorem dL_whole_16 : decode cL_whole 16 = .ok (.lmul, 1) := by decide +kernel
theorem dL_whole_17 : decode cL_whole 17 = .ok (.aload_n 0, 1) := by decide +kernel
theorem dL_whole_18 : decode cL_whole 18 = .ok (.iload_n 3, 1) := by decide +kernel
theorem dL_whole_19 : decode cL_whole 19 = .ok (.invokevirtual 43, 3) := by decide +kernel
theorem dL_whole_22 : decode cL_whole 22 = .ok (.i2l, 1) := by decide +kernel
theorem dL_whole_23 : decode cL_whole 23 = .ok (.ladd, 1) := by decide +kernel
theorem dL_whole_24 : decode cL_whole 24 = .ok (.lstore_n 1, 1) := by decide +kernel
theorem dL_whole_25 : decode cL_whole 25 = .ok (.iinc 3 1, 3) := by decide +kernel
theorem dL_whole_28 : decode cL_whole 28 = .ok (.goto (-22), 3) := by decide +kernel
theorem dL_whole_31 : decode cL_whole 31 = .ok (.iconst 0, 1) := by decide +kernel
theorem dL_whole_32 : decode cL_whole 32 = .ok (.istore_n 3, 1) := by decide +kernel
theorem dL_whole_33 : decode cL_whole 33 = .ok (.iload_n 3, 1) := by decide +kernel
theorem dL_whole_34 : decode cL_whole 34 = .ok (.iconst 2, 1) := by decide +kernel
theorem dL_whole_35 : decode cL_whole 35 = .ok (.if_icmp .ge 138, 3) := by decide +kernel
theorem dL_whole_38 : decode cL_whole 38 = .ok (.iconst 0, 1) := by decide +kernel
theorem dL_whole_39 : decode cL_whole 39 = .ok (.istore 4, 2) := by decide +kernel
theorem dL_whole_41 : decode cL_whole 41 = .ok (.iload 4, 2) := by decide +kernel
theorem dL_whole_43 : decode cL_whole 43 = .ok (.bipush 13, 2) := by decide +kernel
theorem dL_whole_45 : decode cL_whole 45 = .ok (.if_icmp .ge 24, 3) := by decide +kernel
theorem dL_whole_48 : decode cL_whole 48 = .ok (.ldc2_w 41, 3) := by decide +kernel
theorem dL_whole_51 : decode cL_whole 51 = .ok (.lload_n 1, 1) := by decide +kernel
theorem dL_whole_52 : decode cL_whole 52 = .ok (.lmul, 1) := by decide +kernel
theorem dL_whole_53 : decode cL_whole 53 = .ok (.aload_n 0, 1) := by decide +kernel
theorem dL_whole_54 : decode cL_whole 54 = .ok (.iload_n 3, 1) := by decide +kernel
theorem dL_whole_55 : decode cL_whole 55 = .ok (.iload 4, 2) := by decide +kernel
theorem dL_whole_57 : decode cL_whole 57 = .ok (.invokevirtual 46, 3) := by decide +kernel
theorem dL_whole_60 : decode cL_whole 60 = .ok (.i2l, 1) := by decide +kernel
theorem dL_whole_61 : decode cL_whole 61 = .ok (.ladd, 1) := by decide +kernel
theorem dL_whole_62 : decode cL_whole 62 = .ok (.lstore_n 1, 1) := by decide +kernel
theorem dL_whole_63 : decode cL_whole 63 = .ok (.iinc 4 1, 3) := by decide +kernel
theorem dL_whole_66 : decode cL_whole 66 = .ok (.goto (-25), 3) := by decide +kernel
theorem dL_whole_69 : decode cL_whole 69 = .ok (.iconst 0, 1) := by decide +kernel
theorem dL_whole_70 : decode cL_whole 70 = .ok (.istore 4, 2) := by decide +kernel
theorem dL_whole_72 : decode cL_whole 72 = .ok (.iload 4, 2) := by decide +kernel
theorem dL_whole_74 : decode cL_whole 74 = .ok (.iconst 2, 1) := by decide +kernel
theorem dL_whole_75 : decode cL_whole 75 = .ok (.if_icmp .ge 39, 3) := by decide +kernel
theorem dL_whole_78 : decode cL_whole 78 = .ok (.ldc2_w 41, 3) := by decide +kernel
theorem dL_whole_81 : decode cL_whole 81 = .ok (.ldc2_w 41, 3) := by decide +kernel
theorem dL_whole_84 : decode cL_whole 84 = .ok (.lload_n 1, 1) := by decide +kernel
theorem dL_whole_85 : decode cL_whole 85 = .ok (.lmul, 1) := by decide +kernel
theorem dL_whole_86 : decode cL_whole 86 = .ok (.aload_n 0, 1) := by decide +kernel
theorem dL_whole_87 : decode cL_whole 87 = .ok (.iload_n 3, 1) := by decide +kernel
theorem dL_whole_88 : decode cL_whole 88 = .ok (.iload 4, 2) := by decide +kernel
theorem dL_whole_90 : decode cL_whole 90 = .ok (.iconst 0, 1) := by decide +kernel
theorem dL_whole_91 : decode cL_whole 91 = .ok (.invokevirtual 49, 3) := by decide +kernel
theorem dL_whole_94 : decode cL_whole 94 = .ok (.i2l, 1) := by decide +kernel
theorem dL_whole_95 : decode cL_whole 95 = .ok (.ladd, 1) := by decide +kernel
theorem dL_whole_96 : decode cL_whole 96 = .ok (.lmul, 1) := by decide +kernel
theorem dL_whole_97 : decode cL_whole 97 = .ok (.aload_n 0, 1) := by decide +kernel
theorem dL_whole_98 : decode cL_whole 98 = .ok (.iload_n 3, 1) := by decide +kernel
theorem dL_whole_99 : decode cL_whole 99 = .ok (.iload 4, 2) := by decide +kernel
theorem dL_whole_101 : decode cL_whole 101 = .ok (.iconst 1, 1) := by decide +kernel
theorem dL_whole_102 : decode cL_whole 102 = .ok (.invokevirtual 49, 3) := by decide +kernel
theorem dL_whole_105 : decode cL_whole 105 = .ok (.i2l, 1) := by decide +kernel
theorem dL_whole_106 : decode cL_whole 106 = .ok (.ladd, 1) := by decide +kernel
theorem dL_whole_107 : decode cL_whole 107 = .ok (.lstore_n 1, 1) := by decide +kernel
theorem dL_whole_108 : decode cL_whole 108 = .ok (.iinc 4 1, 3) := by decide +kernel
theorem dL_whole_111 : decode cL_whole 111 = .ok (.goto (-39), 3) := by decide +kernel
theorem dL_whole_114 : decode cL_whole 114 = .ok (.iconst 0, 1) := by decide +kernel
theorem dL_whole_115 : decode cL_whole 115 = .ok (.istore 4, 2) := by decide +kernel
theorem dL_whole_117 : decode cL_whole 117 = .ok (.iload 4, 2) := by decide +kernel
theorem dL_whole_119 : decode cL_whole 119 = .ok (.aload_n 0, 1) := by decide +kernel
theorem dL_whole_120 : decode cL_whole 120 = .ok (.iload_n 3, 1) := by decide +kernel
theorem dL_whole_121 : decode cL_whole 121 = .ok (.iconst (-1), 1) := by decide +kernel
theorem dL_whole_122 : decode cL_whole 122 = .ok (.iconst 0, 1) := by decide +kernel
theorem dL_whole_123 : decode cL_whole 123 = .ok (.invokevirtual 53, 3) := by decide +kernel
theorem dL_whole_126 : decode cL_whole 126 = .ok (.if_icmp .ge 41, 3) := by decide +kernel
theorem dL_whole_129 : decode cL_whole 129 = .ok (.iconst 0, 1) := by decide +kernel
theorem dL_whole_130 : decode cL_whole 130 = .ok (.istore 5, 2) := by decide +kernel
theorem dL_whole_132 : decode cL_whole 132 = .ok (.iload 5, 2) := by decide +kernel
theorem dL_whole_134 : decode cL_whole 134 = .ok (.iconst 3, 1) := by decide +kernel
theorem dL_whole_135 : decode cL_whole 135 = .ok (.if_icmp .ge 26, 3) := by decide +kernel
theorem dL_whole_138 : decode cL_whole 138 = .ok (.ldc2_w 41, 3) := by decide +kernel
theorem dL_whole_141 : decode cL_whole 141 = .ok (.lload_n 1, 1) := by decide +kernel
theorem dL_whole_142 : decode cL_whole 142 = .ok (.lmul, 1) := by decide +kernel
theorem dL_whole_143 : decode cL_whole 143 = .ok (.aload_n 0, 1) := by decide +kernel
theorem dL_whole_144 : decode cL_whole 144 = .ok (.iload_n 3, 1) := by decide +kernel
theorem dL_whole_145 : decode cL_whole 145 = .ok (.iload 4, 2) := by decide +kernel
theorem dL_whole_147 : decode cL_whole 147 = .ok (.iload 5, 2) := by decide +kernel
theorem dL_whole_149 : decode cL_whole 149 = .ok (.invokevirtual 53, 3) := by decide +kernel
theorem dL_whole_152 : decode cL_whole 152 = .ok (.i2l, 1) := by decide +kernel
theorem dL_whole_153 : decode cL_whole 153 = .ok (.ladd, 1) := by decide +kernel
theorem dL_whole_154 : decode cL_whole 154 = .ok (.lstore_n 1, 1) := by decide +kernel
theorem dL_whole_155 : decode cL_whole 155 = .ok (.iinc 5 1, 3) := by decide +kernel
theorem dL_whole_158 : decode cL_whole 158 = .ok (.goto (-26), 3) := by decide +kernel
theorem dL_whole_161 : decode cL_whole 161 = .ok (.iinc 4 1, 3) := by decide +kernel
theorem dL_whole_164 : decode cL_whole 164 = .ok (.goto (-47), 3) := by decide +kernel
theorem dL_whole_167 : decode cL_whole 167 = .ok (.iinc 3 1, 3) := by decide +kernel
theorem dL_whole_170 : decode cL_whole 170 = .ok (.goto (-137), 3) := by decide +kernel
theorem dL_whole_173 : decode cL_whole 173 = .ok (.lload_n 1, 1) := by decide +kernel
theorem dL_whole_174 : decode cL_whole 174 = .ok (.lreturn, 1) := by decide +kernel
set_option maxRecDepth 20000 in
theorem ggL_holds_X7_crane : GoodIn wsL_holds wsX7_crane := goodIn_r _ [6, 7, 8, 9, 10, 11, 12, 13, 14, 15, 16, 17, 18, 19, 20, 21, 5, 22, 23, 24, 25, 26, 27, 28, 29, 30, 31, 32, 33, 34, 35, 36, 37, 38, 39, 40, 41, 42, 43, 44, 45, 46, 47, 48, 49, 50, 51, 52, 53, 54, 55, 56, 57, 58, 59, 60, 61, 62, 63, 64, 65, 138, 139, 140, 141, 142, 143, 144, 145, 146, 147, 148, 149, 150, 151, 152, 153, 154, 155, 156, 157, 158, 159, 160, 161, 162, 163, 164, 165, 166, 167, 168, 169, 170, 171, 172, 173, 174] rfl (by decide +kernel)
set_option maxRecDepth 20000 in
theorem gL_holds_X7_crane : GoodIn wsL_holds (wsV RL 46 RX7 yX7_crane wsX7_crane) := goodIn_app (goodIn_of _ (by decide +kernel)) ggL_holds_X7_crane
set_option maxRecDepth 20000 in
theorem ggL_holds_X7_count : GoodIn wsL_holds wsX7_count := goodIn_r _ [69, 18, 70, 71, 19, 72, 73, 7, 8, 74, 75, 76, 77, 78, 79, 80, 81, 26, 82, 29, 83, 28, 84, 138, 139, 140, 141, 142, 143, 144, 145, 146, 147, 165, 166, 167, 168, 169, 170, 171, 148, 149, 150, 151, 172, 173, 174, 175, 176, 177, 152, 153, 154, 155, 156, 157, 158, 159, 160, 161, 162, 163, 164] rfl (by decide +kernel)
set_option maxRecDepth 20000 in
theorem gL_holds_X7_count : GoodIn wsL_holds (wsV RL 43 RX7 yX7_count wsX7_count) := goodIn_app (goodIn_of _ (by decide +kernel)) ggL_holds_X7_count
set_option maxRecDepth 20000 in
theorem ggL_holds_L_size : GoodIn wsL_holds wsL_size := goodIn_r _ [88] rfl (by decide +kernel)
set_option maxRecDepth 20000 in
theorem gL_holds_L_size : GoodIn wsL_holds (va_wsS RL 57 yL_size wsL_size) := goodIn_app (goodIn_of _ (by decide +kernel)) ggL_holds_L_size
set_option maxRecDepth 20000 in
theorem ggL_holds_X7_stop : GoodIn wsL_holds wsX7_stop := goodIn_r _ [92, 18, 19, 93, 94, 5, 95, 96, 97, 98, 47, 48, 49, 50, 51, 39, 52, 138, 139, 140, 141, 142, 143, 144, 145, 146, 147, 165, 166, 167, 168, 169, 170, 171] rfl (by decide +kernel)
set_option maxRecDepth 20000 in
theorem gL_holds_X7_stop : GoodIn wsL_holds (wsV RL 60 RX7 yX7_stop wsX7_stop) := goodIn_app (goodIn_of _ (by decide +kernel)) ggL_holds_X7_stop
set_option maxRecDepth 20000 in
theorem ggL_holds_X7_half : GoodIn wsL_holds wsX7_half := goodIn_r _ [102, 103, 104, 5, 105, 96, 97, 98, 53, 54, 55] rfl (by decide +kernel)
set_option maxRecDepth 20000 in
theorem gL_holds_X7_half : GoodIn wsL_holds (wsV RL 63 RX7 yX7_half wsX7_half) := goodIn_app (goodIn_of _ (by decide +kernel)) ggL_holds_X7_half
set_option maxRecDepth 20000 in
theorem ggL_holds_X7_spot : GoodIn wsL_holds wsX7_spot := goodIn_r _ [109, 7, 110, 20, 21, 5, 22, 96, 97, 98, 111, 112, 113, 114, 115, 116, 117, 118, 119, 120, 121, 122, 123, 124, 125, 126, 127, 128, 129, 130, 131, 132, 133, 134, 135, 136, 137, 138, 139, 140, 141, 142, 143, 144, 145, 146, 147, 178, 179, 180, 148, 149, 150, 151] rfl (by decide +kernel)
set_option maxRecDepth 20000 in
theorem gL_holds_X7_spot : GoodIn wsL_holds (wsV RL 53 RX7 yX7_spot wsX7_spot) := goodIn_app (goodIn_of _ (by decide +kernel)) ggL_holds_X7_spot
theorem dL_holds_0 : decode cL_holds 0 = .ok (.aload_n 0, 1) := by decide +kernel
theorem dL_holds_1 : decode cL_holds 1 = .ok (.iconst 1, 1) := by decide +kernel
theorem dL_holds_2 : decode cL_holds 2 = .ok (.iconst 0, 1) := by decide +kernel
theorem dL_holds_3 : decode cL_holds 3 = .ok (.invokevirtual 46, 3) := by decide +kernel
theorem dL_holds_6 : decode cL_holds 6 = .ok (.aload_n 0, 1) := by decide +kernel
theorem dL_holds_7 : decode cL_holds 7 = .ok (.iconst 0, 1) := by decide +kernel
theorem dL_holds_8 : decode cL_holds 8 = .ok (.iconst 0, 1) := by decide +kernel
theorem dL_holds_9 : decode cL_holds 9 = .ok (.invokevirtual 46, 3) := by decide +kernel
theorem dL_holds_12 : decode cL_holds 12 = .ok (.isub, 1) := by decide +kernel
theorem dL_holds_13 : decode cL_holds 13 = .ok (.aload_n 0, 1) := by decide +kernel
theorem dL_holds_14 : decode cL_holds 14 = .ok (.iconst 1, 1) := by decide +kernel
theorem dL_holds_15 : decode cL_holds 15 = .ok (.invokevirtual 43, 3) := by decide +kernel
theorem dL_holds_18 : decode cL_holds 18 = .ok (.isub, 1) := by decide +kernel
theorem dL_holds_19 : decode cL_holds 19 = .ok (.istore_n 1, 1) := by decide +kernel
theorem dL_holds_20 : decode cL_holds 20 = .ok (.aload_n 0, 1) := by decide +kernel
theorem dL_holds_21 : decode cL_holds 21 = .ok (.iconst 0, 1) := by decide +kernel
theorem dL_holds_22 : decode cL_holds 22 = .ok (.iconst 0, 1) := by decide +kernel
theorem dL_holds_23 : decode cL_holds 23 = .ok (.invokevirtual 46, 3) := by decide +kernel
theorem dL_holds_26 : decode cL_holds 26 = .ok (.ifCond .lt 31, 3) := by decide +kernel
theorem dL_holds_29 : decode cL_holds 29 = .ok (.aload_n 0, 1) := by decide +kernel
theorem dL_holds_30 : decode cL_holds 30 = .ok (.iconst 1, 1) := by decide +kernel
theorem dL_holds_31 : decode cL_holds 31 = .ok (.iconst 0, 1) := by decide +kernel
theorem dL_holds_32 : decode cL_holds 32 = .ok (.invokevirtual 46, 3) := by decide +kernel
theorem dL_holds_35 : decode cL_holds 35 = .ok (.aload_n 0, 1) := by decide +kernel
theorem dL_holds_36 : decode cL_holds 36 = .ok (.iconst 0, 1) := by decide +kernel
theorem dL_holds_37 : decode cL_holds 37 = .ok (.invokevirtual 43, 3) := by decide +kernel
theorem dL_holds_40 : decode cL_holds 40 = .ok (.if_icmp .gt 17, 3) := by decide +kernel
theorem dL_holds_43 : decode cL_holds 43 = .ok (.iload_n 1, 1) := by decide +kernel
theorem dL_holds_44 : decode cL_holds 44 = .ok (.ifCond .lt 13, 3) := by decide +kernel
theorem dL_holds_47 : decode cL_holds 47 = .ok (.aload_n 0, 1) := by decide +kernel
theorem dL_holds_48 : decode cL_holds 48 = .ok (.bipush 9, 2) := by decide +kernel
theorem dL_holds_50 : decode cL_holds 50 = .ok (.invokevirtual 43, 3) := by decide +kernel
theorem dL_holds_53 : decode cL_holds 53 = .ok (.iload_n 1, 1) := by decide +kernel
theorem dL_holds_54 : decode cL_holds 54 = .ok (.if_icmp .eq 5, 3) := by decide +kernel
theorem dL_holds_57 : decode cL_holds 57 = .ok (.iconst 0, 1) := by decide +kernel
theorem dL_holds_58 : decode cL_holds 58 = .ok (.ireturn, 1) := by decide +kernel
theorem dL_holds_59 : decode cL_holds 59 = .ok (.iconst 0, 1) := by decide +kernel
theorem dL_holds_60 : decode cL_holds 60 = .ok (.istore_n 2, 1) := by decide +kernel
theorem dL_holds_61 : decode cL_holds 61 = .ok (.iload_n 2, 1) := by decide +kernel
theorem dL_holds_62 : decode cL_holds 62 = .ok (.iconst 2, 1) := by decide +kernel
theorem dL_holds_63 : decode cL_holds 63 = .ok (.if_icmp .ge 217, 3) := by decide +kernel
theorem dL_holds_66 : decode cL_holds 66 = .ok (.aload_n 0, 1) := by decide +kernel
theorem dL_holds_67 : decode cL_holds 67 = .ok (.iload_n 2, 1) := by decide +kernel
theorem dL_holds_68 : decode cL_holds 68 = .ok (.iconst 1, 1) := by decide +kernel
theorem dL_holds_69 : decode cL_holds 69 = .ok (.invokevirtual 46, 3) := by decide +kernel
theorem dL_holds_72 : decode cL_holds 72 = .ok (.ldc 56, 2) := by decide +kernel
theorem dL_holds_74 : decode cL_holds 74 = .ok (.isub, 1) := by decide +kernel
theorem dL_holds_75 : decode cL_holds 75 = .ok (.istore_n 3, 1) := by decide +kernel
theorem dL_holds_76 : decode cL_holds 76 = .ok (.aload_n 0, 1) := by decide +kernel
theorem dL_holds_77 : decode cL_holds 77 = .ok (.iconst 3, 1) := by decide +kernel
theorem dL_holds_78 : decode cL_holds 78 = .ok (.invokevirtual 43, 3) := by decide +kernel
theorem dL_holds_81 : decode cL_holds 81 = .ok (.aload_n 0, 1) := by decide +kernel
theorem dL_holds_82 : decode cL_holds 82 = .ok (.iload_n 2, 1) := by decide +kernel
theorem dL_holds_83 : decode cL_holds 83 = .ok (.iconst 3, 1) := by decide +kernel
theorem dL_holds_84 : decode cL_holds 84 = .ok (.invokevirtual 46, 3) := by decide +kernel
theorem dL_holds_87 : decode cL_holds 87 = .ok (.bipush 10, 2) := by decide +kernel
theorem dL_holds_89 : decode cL_holds 89 = .ok (.idiv, 1) := by decide +kernel
theorem dL_holds_90 : decode cL_holds 90 = .ok (.isub, 1) := by decide +kernel
theorem dL_holds_91 : decode cL_holds 91 = .ok (.istore 4, 2) := by decide +kernel
theorem dL_holds_93 : decode cL_holds 93 = .ok (.iload_n 3, 1) := by decide +kernel
theorem dL_holds_94 : decode cL_holds 94 = .ok (.invokestatic 57, 3) := by decide +kernel
theorem dL_holds_97 : decode cL_holds 97 = .ok (.aload_n 0, 1) := by decide +kernel
theorem dL_holds_98 : decode cL_holds 98 = .ok (.iconst 3, 1) := by decide +kernel
theorem dL_holds_99 : decode cL_holds 99 = .ok (.invokevirtual 43, 3) := by decide +kernel
theorem dL_holds_102 : decode cL_holds 102 = .ok (.if_icmp .gt 82, 3) := by decide +kernel
theorem dL_holds_105 : decode cL_holds 105 = .ok (.aload_n 0, 1) := by decide +kernel
theorem dL_holds_106 : decode cL_holds 106 = .ok (.iload_n 2, 1) := by decide +kernel
theorem dL_holds_107 : decode cL_holds 107 = .ok (.iconst 2, 1) := by decide +kernel
theorem dL_holds_108 : decode cL_holds 108 = .ok (.invokevirtual 46, 3) := by decide +kernel
theorem dL_holds_111 : decode cL_holds 111 = .ok (.bipush 10, 2) := by decide +kernel
theorem dL_holds_113 : decode cL_holds 113 = .ok (.if_icmp .lt 71, 3) := by decide +kernel
theorem dL_holds_116 : decode cL_holds 116 = .ok (.aload_n 0, 1) := by decide +kernel
theorem dL_holds_117 : decode cL_holds 117 = .ok (.iload_n 2, 1) := by decide +kernel
theorem dL_holds_118 : decode cL_holds 118 = .ok (.iconst 2, 1) := by decide +kernel
theorem dL_holds_119 : decode cL_holds 119 = .ok (.invokevirtual 46, 3) := by decide +kernel
theorem dL_holds_122 : decode cL_holds 122 = .ok (.bipush 60, 2) := by decide +kernel
theorem dL_holds_124 : decode cL_holds 124 = .ok (.if_icmp .gt 60, 3) := by decide +kernel
theorem dL_holds_127 : decode cL_holds 127 = .ok (.aload_n 0, 1) := by decide +kernel
theorem dL_holds_128 : decode cL_holds 128 = .ok (.iload_n 2, 1) := by decide +kernel
theorem dL_holds_129 : decode cL_holds 129 = .ok (.bipush 8, 2) := by decide +kernel
theorem dL_holds_131 : decode cL_holds 131 = .ok (.invokevirtual 46, 3) := by decide +kernel
theorem dL_holds_134 : decode cL_holds 134 = .ok (.iload 4, 2) := by decide +kernel
theorem dL_holds_136 : decode cL_holds 136 = .ok (.iconst 1, 1) := by decide +kernel
theorem dL_holds_137 : decode cL_holds 137 = .ok (.if_icmp .ge 7, 3) := by decide +kernel
theorem dL_holds_140 : decode cL_holds 140 = .ok (.iconst 1, 1) := by decide +kernel
theorem dL_holds_141 : decode cL_holds 141 = .ok (.goto 5, 3) := by decide +kernel
theorem dL_holds_144 : decode cL_holds 144 = .ok (.iload 4, 2) := by decide +kernel
theorem dL_holds_146 : decode cL_holds 146 = .ok (.if_icmp .ne 38, 3) := by decide +kernel
theorem dL_holds_149 : decode cL_holds 149 = .ok (.aload_n 0, 1) := by decide +kernel
theorem dL_holds_150 : decode cL_holds 150 = .ok (.iload_n 2, 1) := by decide +kernel
theorem dL_holds_151 : decode cL_holds 151 = .ok (.bipush 10, 2) := by decide +kernel
theorem dL_holds_153 : decode cL_holds 153 = .ok (.invokevirtual 46, 3) := by decide +kernel
theorem dL_holds_156 : decode cL_holds 156 = .ok (.aload_n 0, 1) := by decide +kernel
theorem dL_holds_157 : decode cL_holds 157 = .ok (.iload_n 3, 1) := by decide +kernel
theorem dL_holds_158 : decode cL_holds 158 = .ok (.invokevirtual 60, 3) := by decide +kernel
theorem dL_holds_161 : decode cL_holds 161 = .ok (.if_icmp .ne 23, 3) := by decide +kernel
theorem dL_holds_164 : decode cL_holds 164 = .ok (.aload_n 0, 1) := by decide +kernel
theorem dL_holds_165 : decode cL_holds 165 = .ok (.iload_n 2, 1) := by decide +kernel
theorem dL_holds_166 : decode cL_holds 166 = .ok (.bipush 11, 2) := by decide +kernel
theorem dL_holds_168 : decode cL_holds 168 = .ok (.invokevirtual 46, 3) := by decide +kernel
theorem dL_holds_171 : decode cL_holds 171 = .ok (.aload_n 0, 1) := by decide +kernel
theorem dL_holds_172 : decode cL_holds 172 = .ok (.aload_n 0, 1) := by decide +kernel
theorem dL_holds_173 : decode cL_holds 173 = .ok (.iload_n 2, 1) := by decide +kernel
theorem dL_holds_174 : decode cL_holds 174 = .ok (.iconst 2, 1) := by decide +kernel
theorem dL_holds_175 : decode cL_holds 175 = .ok (.invokevirtual 46, 3) := by decide +kernel
theorem dL_holds_178 : decode cL_holds 178 = .ok (.invokevirtual 63, 3) := by decide +kernel
theorem dL_holds_181 : decode cL_holds 181 = .ok (.if_icmp .eq 5, 3) := by decide +kernel
theorem dL_holds_184 : decode cL_holds 184 = .ok (.iconst 0, 1) := by decide +kernel
theorem dL_holds_185 : decode cL_holds 185 = .ok (.ireturn, 1) := by decide +kernel
theorem dL_holds_186 : decode cL_holds 186 = .ok (.aload_n 0, 1) := by decide +kernel
theorem dL_holds_187 : decode cL_holds 187 = .ok (.iload_n 2, 1) := by decide +kernel
theorem dL_holds_188 : decode cL_holds 188 = .ok (.iconst 4, 1) := by decide +kernel
theorem dL_holds_189 : decode cL_holds 189 = .ok (.invokevirtual 46, 3) := by decide +kernel
theorem dL_holds_192 : decode cL_holds 192 = .ok (.ldc 56, 2) := by decide +kernel
theorem dL_holds_194 : decode cL_holds 194 = .ok (.isub, 1) := by decide +kernel
theorem dL_holds_195 : decode cL_holds 195 = .ok (.invokestatic 57, 3) := by decide +kernel
theorem dL_holds_198 : decode cL_holds 198 = .ok (.sipush 9999, 3) := by decide +kernel
theorem dL_holds_201 : decode cL_holds 201 = .ok (.if_icmp .gt 21, 3) := by decide +kernel
theorem dL_holds_204 : decode cL_holds 204 = .ok (.aload_n 0, 1) := by decide +kernel
theorem dL_holds_205 : decode cL_holds 205 = .ok (.iload_n 2, 1) := by decide +kernel
theorem dL_holds_206 : decode cL_holds 206 = .ok (.iconst 5, 1) := by decide +kernel
theorem dL_holds_207 : decode cL_holds 207 = .ok (.invokevirtual 46, 3) := by decide +kernel
theorem dL_holds_210 : decode cL_holds 210 = .ok (.ldc 56, 2) := by decide +kernel
theorem dL_holds_212 : decode cL_holds 212 = .ok (.isub, 1) := by decide +kernel
theorem dL_holds_213 : decode cL_holds 213 = .ok (.invokestatic 57, 3) := by decide +kernel
theorem dL_holds_216 : decode cL_holds 216 = .ok (.sipush 9999, 3) := by decide +kernel
theorem dL_holds_219 : decode cL_holds 219 = .ok (.if_icmp .le 5, 3) := by decide +kernel
theorem dL_holds_222 : decode cL_holds 222 = .ok (.iconst 0, 1) := by decide +kernel
theorem dL_holds_223 : decode cL_holds 223 = .ok (.ireturn, 1) := by decide +kernel
theorem dL_holds_224 : decode cL_holds 224 = .ok (.iconst 0, 1) := by decide +kernel
theorem dL_holds_225 : decode cL_holds 225 = .ok (.istore 5, 2) := by decide +kernel
theorem dL_holds_227 : decode cL_holds 227 = .ok (.iconst 0, 1) := by decide +kernel
theorem dL_holds_228 : decode cL_holds 228 = .ok (.istore 6, 2) := by decide +kernel
theorem dL_holds_230 : decode cL_holds 230 = .ok (.iload 6, 2) := by decide +kernel
theorem dL_holds_232 : decode cL_holds 232 = .ok (.aload_n 0, 1) := by decide +kernel
theorem dL_holds_233 : decode cL_holds 233 = .ok (.iload_n 2, 1) := by decide +kernel
theorem dL_holds_234 : decode cL_holds 234 = .ok (.iconst (-1), 1) := by decide +kernel
theorem dL_holds_235 : decode cL_holds 235 = .ok (.iconst 0, 1) := by decide +kernel
theorem dL_holds_236 : decode cL_holds 236 = .ok (.invokevirtual 53, 3) := by decide +kernel
theorem dL_holds_239 : decode cL_holds 239 = .ok (.if_icmp .ge 22, 3) := by decide +kernel
theorem dL_holds_242 : decode cL_holds 242 = .ok (.iload 5, 2) := by decide +kernel
theorem dL_holds_244 : decode cL_holds 244 = .ok (.aload_n 0, 1) := by decide +kernel
theorem dL_holds_245 : decode cL_holds 245 = .ok (.iload_n 2, 1) := by decide +kernel
theorem dL_holds_246 : decode cL_holds 246 = .ok (.iload 6, 2) := by decide +kernel
theorem dL_holds_248 : decode cL_holds 248 = .ok (.iconst 2, 1) := by decide +kernel
theorem dL_holds_249 : decode cL_holds 249 = .ok (.invokevirtual 53, 3) := by decide +kernel
theorem dL_holds_252 : decode cL_holds 252 = .ok (.iadd, 1) := by decide +kernel
theorem dL_holds_253 : decode cL_holds 253 = .ok (.istore 5, 2) := by decide +kernel
theorem dL_holds_255 : decode cL_holds 255 = .ok (.iinc 6 1, 3) := by decide +kernel
theorem dL_holds_258 : decode cL_holds 258 = .ok (.goto (-28), 3) := by decide +kernel
theorem dL_holds_261 : decode cL_holds 261 = .ok (.iload 5, 2) := by decide +kernel
theorem dL_holds_263 : decode cL_holds 263 = .ok (.aload_n 0, 1) := by decide +kernel
theorem dL_holds_264 : decode cL_holds 264 = .ok (.bipush 6, 2) := by decide +kernel
theorem dL_holds_266 : decode cL_holds 266 = .ok (.invokevirtual 43, 3) := by decide +kernel
theorem dL_holds_269 : decode cL_holds 269 = .ok (.if_icmp .eq 5, 3) := by decide +kernel
theorem dL_holds_272 : decode cL_holds 272 = .ok (.iconst 0, 1) := by decide +kernel
theorem dL_holds_273 : decode cL_holds 273 = .ok (.ireturn, 1) := by decide +kernel
theorem dL_holds_274 : decode cL_holds 274 = .ok (.iinc 2 1, 3) := by decide +kernel
theorem dL_holds_277 : decode cL_holds 277 = .ok (.goto (-216), 3) := by decide +kernel
theorem dL_holds_280 : decode cL_holds 280 = .ok (.iconst 1, 1) := by decide +kernel
theorem dL_holds_281 : decode cL_holds 281 = .ok (.ireturn, 1) := by decide +kernel
set_option maxRecDepth 20000 in
theorem ggL_undoes_X7_count : GoodIn wsL_undoes wsX7_count := goodIn_r _ [6, 7, 8, 9, 10, 11, 12, 13, 14, 15, 16, 17, 18, 19, 20, 21, 22, 23, 24, 25, 26, 27, 28, 343, 344, 345, 346, 347, 348, 349, 350, 351, 352, 353, 354, 355, 356, 357, 358, 359, 360, 361, 362, 363, 364, 365, 366, 367, 368, 369, 370, 371, 372, 373, 374, 375, 376, 377, 378, 379, 380, 381, 382] rfl (by decide +kernel)
set_option maxRecDepth 20000 in
theorem gL_undoes_X7_count : GoodIn wsL_undoes (wsV RL 43 RX7 yX7_count wsX7_count) := goodIn_app (goodIn_of _ (by decide +kernel)) ggL_undoes_X7_count
set_option maxRecDepth 20000 in
theorem ggL_undoes_L_cell : GoodIn wsL_undoes wsL_cell := goodIn_r _ [32, 33] rfl (by decide +kernel)
set_option maxRecDepth 20000 in
theorem gL_undoes_L_cell : GoodIn wsL_undoes (va_wsS RL 21 yL_cell wsL_cell) := goodIn_app (goodIn_of _ (by decide +kernel)) ggL_undoes_L_cell
set_option maxRecDepth 20000 in
theorem ggL_undoes_L_part : GoodIn wsL_undoes wsL_part := goodIn_r _ [36, 37] rfl (by decide +kernel)
set_option maxRecDepth 20000 in
theorem gL_undoes_L_part : GoodIn wsL_undoes (va_wsS RL 25 yL_part wsL_part) := goodIn_app (goodIn_of _ (by decide +kernel)) ggL_undoes_L_part
set_option maxRecDepth 20000 in
theorem ggL_undoes_L_whole : GoodIn wsL_undoes wsL_whole := goodIn_r _ [40, 41, 42, 2, 3, 4, 5, 6, 7, 8, 9, 10, 11, 12, 13, 14, 15, 16, 17, 18, 19, 20, 21, 22, 23, 24, 25, 26, 27, 28, 43, 44, 45, 46, 47, 48, 49, 50, 51, 52, 53, 54, 55, 56, 57, 58, 59, 60, 61, 62, 63, 64, 65, 66, 67, 68, 69, 70, 71, 72, 73, 74, 75, 76, 77, 78, 79, 80, 81, 82, 83, 84, 85, 86, 87, 88, 89, 90, 91, 92, 93, 94, 95, 96, 97, 98, 99, 100, 101, 102, 103, 104, 105, 106, 107, 108, 109, 110, 111, 112, 113, 114, 115, 116, 117, 118, 119, 120, 121, 122, 123, 124, 125, 126, 127, 128, 129, 130, 131, 132, 133, 134, 135, 136, 137, 138, 139, 140, 141, 142, 143, 144, 145, 146, 147, 148, 149, 150, 151, 343, 344, 345, 346, 347, 348, 349, 350, 351, 352, 353, 354, 355, 356, 357, 358, 359, 360, 361, 362, 363, 364, 365, 366, 367, 368, 369, 370, 371, 372, 373, 374, 375, 376, 377, 378, 379, 380, 381, 382, 383, 384, 385] rfl (by decide +kernel)
set_option maxRecDepth 20000 in
theorem gL_undoes_L_whole : GoodIn wsL_undoes (va_wsS RL 66 yL_whole wsL_whole) := goodIn_app (goodIn_of _ (by decide +kernel)) ggL_undoes_L_whole
set_option maxRecDepth 20000 in
theorem ggL_undoes_X7_tick : GoodIn wsL_undoes wsX7_tick := goodIn_r _ [155, 13, 16, 7, 103, 104, 5, 105, 156, 157, 158, 159, 160, 161, 162, 163, 17, 164, 165, 72, 166, 167, 168, 169, 128, 170, 171, 130, 131, 172, 173, 174, 175, 23, 176, 27, 25, 177, 178, 179, 180, 66, 181, 182, 93, 183, 69, 95, 97, 94, 184, 110, 78, 111, 79, 185, 186, 187, 188, 135, 189, 150, 137, 138, 139, 140, 141, 190, 147, 148, 149, 151, 191, 192, 193, 194, 195, 196, 197, 198, 199, 200, 201, 202, 203, 204, 26, 205, 206, 207, 208, 209, 21, 22, 24, 28, 210, 211, 212, 213, 214, 215, 216, 217, 218, 219, 220, 221, 222, 223, 64, 65, 67, 68, 70, 71, 73, 224, 225, 226, 81, 82, 83, 84, 85, 227, 228, 229, 230, 96, 231, 232, 233, 234, 235, 236, 237, 238, 239, 240, 241, 242, 243, 244, 245, 246, 247, 248, 249, 250, 251, 252, 343, 344, 345, 346, 347, 348, 349, 350, 351, 352, 360, 361, 362, 363, 364, 365, 366, 370, 371, 372, 373, 374, 375, 376, 377, 378, 379, 380, 381, 382, 383, 384, 385, 353, 354, 355, 356, 357, 358, 359] rfl (by decide +kernel)
set_option maxRecDepth 20000 in
theorem gL_undoes_X7_tick : GoodIn wsL_undoes (wsV RL 70 RX7 yX7_tick wsX7_tick) := goodIn_app (goodIn_of _ (by decide +kernel)) ggL_undoes_X7_tick
set_option maxRecDepth 20000 in
theorem ggL_undoes_X7_command : GoodIn wsL_undoes wsX7_command := goodIn_r _ [256, 13, 14, 56, 57, 5, 58, 257, 258, 259, 103, 104, 105, 156, 157, 158, 159, 160, 161, 162, 163, 17, 164, 165, 72, 166, 167, 168, 169, 128, 170, 171, 130, 131, 172, 173, 174, 175, 23, 176, 27, 25, 177, 178, 179, 180, 66, 181, 182, 93, 183, 69, 95, 97, 94, 184, 110, 78, 111, 79, 185, 186, 187, 188, 135, 189, 150, 137, 138, 139, 140, 141, 190, 147, 148, 149, 151, 191, 192, 193, 194, 260, 261, 262, 263, 264, 265, 266, 267, 268, 269, 270, 271, 272, 273, 274, 275, 276, 277, 278, 279, 280, 281, 282, 283, 284, 285, 286, 287, 343, 344, 345, 346, 347, 348, 349, 350, 351, 352, 360, 361, 362, 363, 364, 365, 366, 370, 371, 372, 373, 374, 375, 376, 377, 378, 379, 380, 381, 382, 383, 384, 385] rfl (by decide +kernel)
set_option maxRecDepth 20000 in
theorem gL_undoes_X7_command : GoodIn wsL_undoes (wsV RL 73 RX7 yX7_command wsX7_command) := goodIn_app (goodIn_of _ (by decide +kernel)) ggL_undoes_X7_command
set_option maxRecDepth 20000 in
theorem ggL_undoes_X7_shape : GoodIn wsL_undoes wsX7_shape := goodIn_r _ [291, 13, 14, 56, 57, 5, 58, 257, 258, 259, 103, 104, 105, 156, 157, 158, 159, 160, 161, 162, 163, 17, 164, 165, 72, 166, 167, 168, 169, 128, 170, 171, 130, 131, 172, 173, 174, 175, 23, 176, 27, 25, 177, 178, 179, 180, 66, 181, 182, 93, 183, 69, 95, 97, 94, 184, 110, 78, 111, 79, 185, 186, 187, 188, 135, 189, 150, 137, 138, 139, 140, 141, 190, 147, 148, 149, 151, 191, 192, 193, 194, 292, 293, 294, 295, 264, 265, 266, 267, 268, 269, 270, 271, 296, 297, 298, 299, 87, 88, 276, 277, 278, 279, 280, 281, 282, 283, 284, 285, 286, 287, 343, 344, 345, 346, 347, 348, 349, 350, 351, 352, 360, 361, 362, 363, 364, 365, 366, 370, 371, 372, 373, 374, 375, 376, 377, 378, 379, 380, 381, 382, 383, 384, 385] rfl (by decide +kernel)
set_option maxRecDepth 20000 in
theorem gL_undoes_X7_shape : GoodIn wsL_undoes (wsV RL 76 RX7 yX7_shape wsX7_shape) := goodIn_app (goodIn_of _ (by decide +kernel)) ggL_undoes_X7_shape
set_option maxRecDepth 20000 in
theorem ggL_undoes_X7_target : GoodIn wsL_undoes wsX7_target := goodIn_r _ [303, 13, 14, 55, 56, 57, 5, 58, 304, 305, 306, 103, 104, 105, 307, 308, 309, 23, 310, 27, 311, 25, 264, 265, 266, 267, 268, 269, 270, 271, 177, 280, 281, 282, 283, 156, 157, 158, 159, 160, 161, 162, 163, 17, 164, 165, 72, 166, 167, 168, 169, 128, 170, 171, 130, 131, 172, 173, 174, 175, 176, 178, 179, 180, 66, 181, 182, 93, 183, 69, 95, 97, 94, 184, 110, 78, 111, 79, 185, 186, 187, 188, 135, 189, 150, 137, 138, 139, 140, 141, 190, 147, 148, 149, 151, 191, 192, 193, 194, 59, 60, 61, 62, 312, 313, 314, 315, 343, 344, 345, 346, 347, 348, 349, 350, 351, 352, 360, 361, 362, 363, 370, 371, 372, 373, 374, 375, 376, 377, 378, 379, 380, 381, 382, 364, 365, 366, 383, 384, 385] rfl (by decide +kernel)
set_option maxRecDepth 20000 in
theorem gL_undoes_X7_target : GoodIn wsL_undoes (wsV RL 79 RX7 yX7_target wsX7_target) := goodIn_app (goodIn_of _ (by decide +kernel)) ggL_undoes_X7_target
set_option maxRecDepth 20000 in
theorem ggL_undoes_X7_load : GoodIn wsL_undoes wsX7_load := goodIn_r _ [319, 13, 14, 51, 56, 57, 5, 58, 103, 104, 105, 59, 60, 61, 23, 62, 27, 25, 156, 157, 158, 159, 160, 161, 162, 163, 17, 164, 165, 72, 166, 167, 168, 169, 128, 170, 171, 130, 131, 172, 173, 174, 175, 176, 177, 178, 179, 180, 66, 181, 182, 93, 183, 69, 95, 97, 94, 184, 110, 78, 111, 79, 185, 186, 187, 188, 135, 189, 150, 137, 138, 139, 140, 141, 190, 147, 148, 149, 151, 191, 192, 193, 194, 343, 344, 345, 346, 347, 348, 349, 350, 351, 352, 360, 361, 362, 363, 370, 371, 372, 373, 374, 375, 376, 377, 378, 379, 380, 381, 382, 364, 365, 366, 383, 384, 385] rfl (by decide +kernel)
set_option maxRecDepth 20000 in
theorem gL_undoes_X7_load : GoodIn wsL_undoes (wsV RL 82 RX7 yX7_load wsX7_load) := goodIn_app (goodIn_of _ (by decide +kernel)) ggL_undoes_X7_load
set_option maxRecDepth 20000 in
theorem ggL_undoes_X7_couple : GoodIn wsL_undoes wsX7_couple := goodIn_r _ [323, 13, 14, 15, 103, 104, 5, 105, 156, 157, 158, 159, 160, 161, 162, 163, 17, 164, 165, 72, 166, 167, 168, 169, 128, 170, 171, 130, 131, 172, 173, 174, 175, 23, 176, 27, 25, 177, 178, 179, 180, 66, 181, 182, 93, 183, 69, 95, 97, 94, 184, 110, 78, 111, 79, 185, 186, 187, 188, 135, 189, 150, 137, 138, 139, 140, 141, 190, 147, 148, 149, 151, 191, 192, 193, 194, 343, 344, 345, 346, 347, 348, 349, 350, 351, 352, 360, 361, 362, 363, 364, 365, 366, 370, 371, 372, 373, 374, 375, 376, 377, 378, 379, 380, 381, 382, 383, 384, 385] rfl (by decide +kernel)
set_option maxRecDepth 20000 in
theorem gL_undoes_X7_couple : GoodIn wsL_undoes (wsV RL 85 RX7 yX7_couple wsX7_couple) := goodIn_app (goodIn_of _ (by decide +kernel)) ggL_undoes_X7_couple
set_option maxRecDepth 20000 in
theorem ggL_undoes_L_holds : GoodIn wsL_undoes wsL_holds := goodIn_r _ [326, 327, 43, 44, 45, 5, 46, 13, 14, 47, 48, 49, 50, 51, 52, 53, 54, 55, 7, 10, 56, 57, 58, 59, 60, 61, 23, 62, 27, 25, 63, 64, 65, 66, 67, 68, 69, 70, 71, 72, 73, 74, 75, 76, 77, 78, 79, 80, 81, 82, 83, 84, 85, 86, 87, 88, 89, 90, 91, 92, 93, 94, 95, 96, 97, 98, 2, 3, 4, 6, 8, 9, 11, 12, 15, 16, 17, 18, 19, 20, 21, 22, 24, 26, 28, 328, 329, 31, 330, 331, 332, 333, 334, 257, 258, 259, 103, 104, 105, 335, 336, 337, 338, 304, 305, 306, 120, 121, 122, 123, 124, 125, 126, 127, 128, 129, 130, 131, 132, 133, 134, 135, 136, 137, 138, 139, 140, 141, 142, 143, 144, 145, 146, 147, 148, 149, 150, 151, 343, 344, 345, 346, 347, 348, 349, 350, 351, 352, 360, 361, 362, 363, 370, 371, 372, 373, 374, 375, 376, 377, 378, 379, 380, 381, 382, 353, 354, 355, 356, 357, 358, 359, 364, 365, 366, 367, 368, 369, 383, 384, 385] rfl (by decide +kernel)
set_option maxRecDepth 20000 in
theorem gL_undoes_L_holds : GoodIn wsL_undoes (va_wsS RL 88 yL_holds wsL_holds) := goodIn_app (goodIn_of _ (by decide +kernel)) ggL_undoes_L_holds
set_option maxRecDepth 20000 in
theorem ggL_undoes_X7_undo : GoodIn wsL_undoes wsX7_undo := goodIn_r _ [342, 17, 13, 163, 162, 161, 160, 343, 344, 345, 346, 347, 348, 349, 350, 351, 352] rfl (by decide +kernel)
set_option maxRecDepth 20000 in
theorem gL_undoes_X7_undo : GoodIn wsL_undoes (wsV RL 92 RX7 yX7_undo wsX7_undo) := goodIn_app (goodIn_of _ (by decide +kernel)) ggL_undoes_X7_undo
theorem dL_undoes_0 : decode cL_undoes 0 = .ok (.bipush 12, 2) := by decide +kernel
theorem dL_undoes_2 : decode cL_undoes 2 = .ok (.newarray .long, 2) := by decide +kernel
theorem dL_undoes_4 : decode cL_undoes 4 = .ok (.astore_n 3, 1) := by decide +kernel
theorem dL_undoes_5 : decode cL_undoes 5 = .ok (.iconst 0, 1) := by decide +kernel
theorem dL_undoes_6 : decode cL_undoes 6 = .ok (.istore 4, 2) := by decide +kernel
theorem dL_undoes_8 : decode cL_undoes 8 = .ok (.aload_n 0, 1) := by decide +kernel
theorem dL_undoes_9 : decode cL_undoes 9 = .ok (.bipush 7, 2) := by decide +kernel
theorem dL_undoes_11 : decode cL_undoes 11 = .ok (.invokevirtual 43, 3) := by decide +kernel
theorem dL_undoes_14 : decode cL_undoes 14 = .ok (.istore 5, 2) := by decide +kernel
theorem dL_undoes_16 : decode cL_undoes 16 = .ok (.iconst 0, 1) := by decide +kernel
theorem dL_undoes_17 : decode cL_undoes 17 = .ok (.istore 6, 2) := by decide +kernel
theorem dL_undoes_19 : decode cL_undoes 19 = .ok (.iload 6, 2) := by decide +kernel
theorem dL_undoes_21 : decode cL_undoes 21 = .ok (.bipush 9, 2) := by decide +kernel
theorem dL_undoes_23 : decode cL_undoes 23 = .ok (.if_icmp .ge 316, 3) := by decide +kernel
theorem dL_undoes_26 : decode cL_undoes 26 = .ok (.aload_n 1, 1) := by decide +kernel
theorem dL_undoes_27 : decode cL_undoes 27 = .ok (.iload_n 2, 1) := by decide +kernel
theorem dL_undoes_28 : decode cL_undoes 28 = .ok (.iload 6, 2) := by decide +kernel
theorem dL_undoes_30 : decode cL_undoes 30 = .ok (.iadd, 1) := by decide +kernel
theorem dL_undoes_31 : decode cL_undoes 31 = .ok (.invokestatic 21, 3) := by decide +kernel
theorem dL_undoes_34 : decode cL_undoes 34 = .ok (.istore 7, 2) := by decide +kernel
theorem dL_undoes_36 : decode cL_undoes 36 = .ok (.iload 7, 2) := by decide +kernel
theorem dL_undoes_38 : decode cL_undoes 38 = .ok (.iconst 3, 1) := by decide +kernel
theorem dL_undoes_39 : decode cL_undoes 39 = .ok (.ishr, 1) := by decide +kernel
theorem dL_undoes_40 : decode cL_undoes 40 = .ok (.bipush 9, 2) := by decide +kernel
theorem dL_undoes_42 : decode cL_undoes 42 = .ok (.invokestatic 25, 3) := by decide +kernel
theorem dL_undoes_45 : decode cL_undoes 45 = .ok (.ifCond .ne 7, 3) := by decide +kernel
theorem dL_undoes_48 : decode cL_undoes 48 = .ok (.iconst 2, 1) := by decide +kernel
theorem dL_undoes_49 : decode cL_undoes 49 = .ok (.goto 11, 3) := by decide +kernel
theorem dL_undoes_52 : decode cL_undoes 52 = .ok (.iload 7, 2) := by decide +kernel
theorem dL_undoes_54 : decode cL_undoes 54 = .ok (.iconst 3, 1) := by decide +kernel
theorem dL_undoes_55 : decode cL_undoes 55 = .ok (.ishr, 1) := by decide +kernel
theorem dL_undoes_56 : decode cL_undoes 56 = .ok (.iconst 2, 1) := by decide +kernel
theorem dL_undoes_57 : decode cL_undoes 57 = .ok (.invokestatic 25, 3) := by decide +kernel
theorem dL_undoes_60 : decode cL_undoes 60 = .ok (.istore 8, 2) := by decide +kernel
theorem dL_undoes_62 : decode cL_undoes 62 = .ok (.iload 7, 2) := by decide +kernel
theorem dL_undoes_64 : decode cL_undoes 64 = .ok (.bipush 8, 2) := by decide +kernel
theorem dL_undoes_66 : decode cL_undoes 66 = .ok (.invokestatic 25, 3) := by decide +kernel
theorem dL_undoes_69 : decode cL_undoes 69 = .ok (.istore 9, 2) := by decide +kernel
theorem dL_undoes_71 : decode cL_undoes 71 = .ok (.aload_n 0, 1) := by decide +kernel
theorem dL_undoes_72 : decode cL_undoes 72 = .ok (.bipush 7, 2) := by decide +kernel
theorem dL_undoes_74 : decode cL_undoes 74 = .ok (.invokevirtual 43, 3) := by decide +kernel
theorem dL_undoes_77 : decode cL_undoes 77 = .ok (.istore 10, 2) := by decide +kernel
theorem dL_undoes_79 : decode cL_undoes 79 = .ok (.aload_n 3, 1) := by decide +kernel
theorem dL_undoes_80 : decode cL_undoes 80 = .ok (.iload 4, 2) := by decide +kernel
theorem dL_undoes_82 : decode cL_undoes 82 = .ok (.aload_n 0, 1) := by decide +kernel
theorem dL_undoes_83 : decode cL_undoes 83 = .ok (.invokestatic 66, 3) := by decide +kernel
theorem dL_undoes_86 : decode cL_undoes 86 = .ok (.lastore, 1) := by decide +kernel
theorem dL_undoes_87 : decode cL_undoes 87 = .ok (.iload 7, 2) := by decide +kernel
theorem dL_undoes_89 : decode cL_undoes 89 = .ok (.bipush 6, 2) := by decide +kernel
theorem dL_undoes_91 : decode cL_undoes 91 = .ok (.ishr, 1) := by decide +kernel
theorem dL_undoes_92 : decode cL_undoes 92 = .ok (.bipush 83, 2) := by decide +kernel
theorem dL_undoes_94 : decode cL_undoes 94 = .ok (.invokestatic 25, 3) := by decide +kernel
theorem dL_undoes_97 : decode cL_undoes 97 = .ok (.bipush 41, 2) := by decide +kernel
theorem dL_undoes_99 : decode cL_undoes 99 = .ok (.isub, 1) := by decide +kernel
theorem dL_undoes_100 : decode cL_undoes 100 = .ok (.istore 11, 2) := by decide +kernel
theorem dL_undoes_102 : decode cL_undoes 102 = .ok (.iload 9, 2) := by decide +kernel
theorem dL_undoes_104 : decode cL_undoes 104 = .ok (.iconst 2, 1) := by decide +kernel
theorem dL_undoes_105 : decode cL_undoes 105 = .ok (.if_icmp .ge 21, 3) := by decide +kernel
theorem dL_undoes_108 : decode cL_undoes 108 = .ok (.aload_n 0, 1) := by decide +kernel
theorem dL_undoes_109 : decode cL_undoes 109 = .ok (.iconst 1, 1) := by decide +kernel
theorem dL_undoes_110 : decode cL_undoes 110 = .ok (.iload 7, 2) := by decide +kernel
theorem dL_undoes_112 : decode cL_undoes 112 = .ok (.iconst 4, 1) := by decide +kernel
theorem dL_undoes_113 : decode cL_undoes 113 = .ok (.ishr, 1) := by decide +kernel
theorem dL_undoes_114 : decode cL_undoes 114 = .ok (.bipush 61, 2) := by decide +kernel
theorem dL_undoes_116 : decode cL_undoes 116 = .ok (.invokestatic 25, 3) := by decide +kernel
theorem dL_undoes_119 : decode cL_undoes 119 = .ok (.iadd, 1) := by decide +kernel
theorem dL_undoes_120 : decode cL_undoes 120 = .ok (.invokevirtual 70, 3) := by decide +kernel
theorem dL_undoes_123 : decode cL_undoes 123 = .ok (.goto 115, 3) := by decide +kernel
theorem dL_undoes_126 : decode cL_undoes 126 = .ok (.iload 9, 2) := by decide +kernel
theorem dL_undoes_128 : decode cL_undoes 128 = .ok (.iconst 2, 1) := by decide +kernel
theorem dL_undoes_129 : decode cL_undoes 129 = .ok (.if_icmp .ne 14, 3) := by decide +kernel
theorem dL_undoes_132 : decode cL_undoes 132 = .ok (.aload_n 0, 1) := by decide +kernel
theorem dL_undoes_133 : decode cL_undoes 133 = .ok (.iload 8, 2) := by decide +kernel
theorem dL_undoes_135 : decode cL_undoes 135 = .ok (.iload 11, 2) := by decide +kernel
theorem dL_undoes_137 : decode cL_undoes 137 = .ok (.invokevirtual 73, 3) := by decide +kernel
theorem dL_undoes_140 : decode cL_undoes 140 = .ok (.goto 98, 3) := by decide +kernel
theorem dL_undoes_143 : decode cL_undoes 143 = .ok (.iload 9, 2) := by decide +kernel
theorem dL_undoes_145 : decode cL_undoes 145 = .ok (.iconst 5, 1) := by decide +kernel
theorem dL_undoes_146 : decode cL_undoes 146 = .ok (.if_icmp .ge 25, 3) := by decide +kernel
theorem dL_undoes_149 : decode cL_undoes 149 = .ok (.aload_n 0, 1) := by decide +kernel
theorem dL_undoes_150 : decode cL_undoes 150 = .ok (.iload 8, 2) := by decide +kernel
theorem dL_undoes_152 : decode cL_undoes 152 = .ok (.iload 11, 2) := by decide +kernel
theorem dL_undoes_154 : decode cL_undoes 154 = .ok (.iload 7, 2) := by decide +kernel
theorem dL_undoes_156 : decode cL_undoes 156 = .ok (.iconst 5, 1) := by decide +kernel
theorem dL_undoes_157 : decode cL_undoes 157 = .ok (.ishr, 1) := by decide +kernel
theorem dL_undoes_158 : decode cL_undoes 158 = .ok (.bipush 23, 2) := by decide +kernel
theorem dL_undoes_160 : decode cL_undoes 160 = .ok (.invokestatic 25, 3) := by decide +kernel
theorem dL_undoes_163 : decode cL_undoes 163 = .ok (.iconst 1, 1) := by decide +kernel
theorem dL_undoes_164 : decode cL_undoes 164 = .ok (.isub, 1) := by decide +kernel
theorem dL_undoes_165 : decode cL_undoes 165 = .ok (.invokevirtual 76, 3) := by decide +kernel
theorem dL_undoes_168 : decode cL_undoes 168 = .ok (.goto 70, 3) := by decide +kernel
theorem dL_undoes_171 : decode cL_undoes 171 = .ok (.iload 9, 2) := by decide +kernel
theorem dL_undoes_173 : decode cL_undoes 173 = .ok (.iconst 5, 1) := by decide +kernel
theorem dL_undoes_174 : decode cL_undoes 174 = .ok (.if_icmp .ne 24, 3) := by decide +kernel
theorem dL_undoes_177 : decode cL_undoes 177 = .ok (.aload_n 0, 1) := by decide +kernel
theorem dL_undoes_178 : decode cL_undoes 178 = .ok (.iload 8, 2) := by decide +kernel
theorem dL_undoes_180 : decode cL_undoes 180 = .ok (.bipush 9, 2) := by decide +kernel
theorem dL_undoes_182 : decode cL_undoes 182 = .ok (.iload 7, 2) := by decide +kernel
theorem dL_undoes_184 : decode cL_undoes 184 = .ok (.iconst 5, 1) := by decide +kernel
theorem dL_undoes_185 : decode cL_undoes 185 = .ok (.ishr, 1) := by decide +kernel
theorem dL_undoes_186 : decode cL_undoes 186 = .ok (.bipush 53, 2) := by decide +kernel
theorem dL_undoes_188 : decode cL_undoes 188 = .ok (.invokestatic 25, 3) := by decide +kernel
theorem dL_undoes_191 : decode cL_undoes 191 = .ok (.iadd, 1) := by decide +kernel
theorem dL_undoes_192 : decode cL_undoes 192 = .ok (.invokevirtual 79, 3) := by decide +kernel
theorem dL_undoes_195 : decode cL_undoes 195 = .ok (.goto 43, 3) := by decide +kernel
theorem dL_undoes_198 : decode cL_undoes 198 = .ok (.iload 9, 2) := by decide +kernel
theorem dL_undoes_200 : decode cL_undoes 200 = .ok (.bipush 6, 2) := by decide +kernel
theorem dL_undoes_202 : decode cL_undoes 202 = .ok (.if_icmp .ne 21, 3) := by decide +kernel
theorem dL_undoes_205 : decode cL_undoes 205 = .ok (.aload_n 0, 1) := by decide +kernel
theorem dL_undoes_206 : decode cL_undoes 206 = .ok (.iload 8, 2) := by decide +kernel
theorem dL_undoes_208 : decode cL_undoes 208 = .ok (.iload 7, 2) := by decide +kernel
theorem dL_undoes_210 : decode cL_undoes 210 = .ok (.iconst 5, 1) := by decide +kernel
theorem dL_undoes_211 : decode cL_undoes 211 = .ok (.ishr, 1) := by decide +kernel
theorem dL_undoes_212 : decode cL_undoes 212 = .ok (.bipush 101, 2) := by decide +kernel
theorem dL_undoes_214 : decode cL_undoes 214 = .ok (.invokestatic 25, 3) := by decide +kernel
theorem dL_undoes_217 : decode cL_undoes 217 = .ok (.invokevirtual 82, 3) := by decide +kernel
theorem dL_undoes_220 : decode cL_undoes 220 = .ok (.goto 18, 3) := by decide +kernel
theorem dL_undoes_223 : decode cL_undoes 223 = .ok (.aload_n 0, 1) := by decide +kernel
theorem dL_undoes_224 : decode cL_undoes 224 = .ok (.iload 7, 2) := by decide +kernel
theorem dL_undoes_226 : decode cL_undoes 226 = .ok (.iconst 5, 1) := by decide +kernel
theorem dL_undoes_227 : decode cL_undoes 227 = .ok (.ishr, 1) := by decide +kernel
theorem dL_undoes_228 : decode cL_undoes 228 = .ok (.bipush 23, 2) := by decide +kernel
theorem dL_undoes_230 : decode cL_undoes 230 = .ok (.invokestatic 25, 3) := by decide +kernel
theorem dL_undoes_233 : decode cL_undoes 233 = .ok (.iconst 1, 1) := by decide +kernel
theorem dL_undoes_234 : decode cL_undoes 234 = .ok (.isub, 1) := by decide +kernel
theorem dL_undoes_235 : decode cL_undoes 235 = .ok (.invokevirtual 85, 3) := by decide +kernel
theorem dL_undoes_238 : decode cL_undoes 238 = .ok (.istore 12, 2) := by decide +kernel
theorem dL_undoes_240 : decode cL_undoes 240 = .ok (.iload 12, 2) := by decide +kernel
theorem dL_undoes_242 : decode cL_undoes 242 = .ok (.ifCond .ge 17, 3) := by decide +kernel
theorem dL_undoes_245 : decode cL_undoes 245 = .ok (.iload 9, 2) := by decide +kernel
theorem dL_undoes_247 : decode cL_undoes 247 = .ok (.bipush 7, 2) := by decide +kernel
theorem dL_undoes_249 : decode cL_undoes 249 = .ok (.if_icmp .ne 14, 3) := by decide +kernel
theorem dL_undoes_252 : decode cL_undoes 252 = .ok (.iload 12, 2) := by decide +kernel
theorem dL_undoes_254 : decode cL_undoes 254 = .ok (.bipush (-4), 2) := by decide +kernel
theorem dL_undoes_256 : decode cL_undoes 256 = .ok (.if_icmp .ne 7, 3) := by decide +kernel
theorem dL_undoes_259 : decode cL_undoes 259 = .ok (.iconst 1, 1) := by decide +kernel
theorem dL_undoes_260 : decode cL_undoes 260 = .ok (.goto 4, 3) := by decide +kernel
theorem dL_undoes_263 : decode cL_undoes 263 = .ok (.iconst 0, 1) := by decide +kernel
theorem dL_undoes_264 : decode cL_undoes 264 = .ok (.istore 13, 2) := by decide +kernel
theorem dL_undoes_266 : decode cL_undoes 266 = .ok (.iload 13, 2) := by decide +kernel
theorem dL_undoes_268 : decode cL_undoes 268 = .ok (.ifCond .ne 28, 3) := by decide +kernel
theorem dL_undoes_271 : decode cL_undoes 271 = .ok (.aload_n 0, 1) := by decide +kernel
theorem dL_undoes_272 : decode cL_undoes 272 = .ok (.invokestatic 66, 3) := by decide +kernel
theorem dL_undoes_275 : decode cL_undoes 275 = .ok (.aload_n 3, 1) := by decide +kernel
theorem dL_undoes_276 : decode cL_undoes 276 = .ok (.iload 4, 2) := by decide +kernel
theorem dL_undoes_278 : decode cL_undoes 278 = .ok (.laload, 1) := by decide +kernel
theorem dL_undoes_279 : decode cL_undoes 279 = .ok (.lcmp, 1) := by decide +kernel
theorem dL_undoes_280 : decode cL_undoes 280 = .ok (.ifCond .ne 14, 3) := by decide +kernel
theorem dL_undoes_283 : decode cL_undoes 283 = .ok (.aload_n 0, 1) := by decide +kernel
theorem dL_undoes_284 : decode cL_undoes 284 = .ok (.bipush 7, 2) := by decide +kernel
theorem dL_undoes_286 : decode cL_undoes 286 = .ok (.invokevirtual 43, 3) := by decide +kernel
theorem dL_undoes_289 : decode cL_undoes 289 = .ok (.iload 10, 2) := by decide +kernel
theorem dL_undoes_291 : decode cL_undoes 291 = .ok (.if_icmp .eq 33, 3) := by decide +kernel
theorem dL_undoes_294 : decode cL_undoes 294 = .ok (.iconst 0, 1) := by decide +kernel
theorem dL_undoes_295 : decode cL_undoes 295 = .ok (.ireturn, 1) := by decide +kernel
theorem dL_undoes_296 : decode cL_undoes 296 = .ok (.aload_n 0, 1) := by decide +kernel
theorem dL_undoes_297 : decode cL_undoes 297 = .ok (.bipush 7, 2) := by decide +kernel
theorem dL_undoes_299 : decode cL_undoes 299 = .ok (.invokevirtual 43, 3) := by decide +kernel
theorem dL_undoes_302 : decode cL_undoes 302 = .ok (.iload 10, 2) := by decide +kernel
theorem dL_undoes_304 : decode cL_undoes 304 = .ok (.iconst 4, 1) := by decide +kernel
theorem dL_undoes_305 : decode cL_undoes 305 = .ok (.if_icmp .ge 10, 3) := by decide +kernel
theorem dL_undoes_308 : decode cL_undoes 308 = .ok (.iload 10, 2) := by decide +kernel
theorem dL_undoes_310 : decode cL_undoes 310 = .ok (.iconst 1, 1) := by decide +kernel
theorem dL_undoes_311 : decode cL_undoes 311 = .ok (.iadd, 1) := by decide +kernel
theorem dL_undoes_312 : decode cL_undoes 312 = .ok (.goto 4, 3) := by decide +kernel
theorem dL_undoes_315 : decode cL_undoes 315 = .ok (.iconst 4, 1) := by decide +kernel
theorem dL_undoes_316 : decode cL_undoes 316 = .ok (.if_icmp .eq 5, 3) := by decide +kernel
theorem dL_undoes_319 : decode cL_undoes 319 = .ok (.iconst 0, 1) := by decide +kernel
theorem dL_undoes_320 : decode cL_undoes 320 = .ok (.ireturn, 1) := by decide +kernel
theorem dL_undoes_321 : decode cL_undoes 321 = .ok (.iinc 4 1, 3) := by decide +kernel
theorem dL_undoes_324 : decode cL_undoes 324 = .ok (.aload_n 0, 1) := by decide +kernel
theorem dL_undoes_325 : decode cL_undoes 325 = .ok (.invokestatic 88, 3) := by decide +kernel
theorem dL_undoes_328 : decode cL_undoes 328 = .ok (.ifCond .ne 5, 3) := by decide +kernel
theorem dL_undoes_331 : decode cL_undoes 331 = .ok (.iconst 0, 1) := by decide +kernel
theorem dL_undoes_332 : decode cL_undoes 332 = .ok (.ireturn, 1) := by decide +kernel
theorem dL_undoes_333 : decode cL_undoes 333 = .ok (.iinc 6 1, 3) := by decide +kernel
theorem dL_undoes_336 : decode cL_undoes 336 = .ok (.goto (-317), 3) := by decide +kernel
theorem dL_undoes_339 : decode cL_undoes 339 = .ok (.iload 5, 2) := by decide +kernel
theorem dL_undoes_341 : decode cL_undoes 341 = .ok (.iload 4, 2) := by decide +kernel
theorem dL_undoes_343 : decode cL_undoes 343 = .ok (.iadd, 1) := by decide +kernel
theorem dL_undoes_344 : decode cL_undoes 344 = .ok (.iconst 4, 1) := by decide +kernel
theorem dL_undoes_345 : decode cL_undoes 345 = .ok (.if_icmp .ge 11, 3) := by decide +kernel
theorem dL_undoes_348 : decode cL_undoes 348 = .ok (.iload 5, 2) := by decide +kernel
theorem dL_undoes_350 : decode cL_undoes 350 = .ok (.iload 4, 2) := by decide +kernel
theorem dL_undoes_352 : decode cL_undoes 352 = .ok (.iadd, 1) := by decide +kernel
theorem dL_undoes_353 : decode cL_undoes 353 = .ok (.goto 4, 3) := by decide +kernel
theorem dL_undoes_356 : decode cL_undoes 356 = .ok (.iconst 4, 1) := by decide +kernel
theorem dL_undoes_357 : decode cL_undoes 357 = .ok (.istore 6, 2) := by decide +kernel
theorem dL_undoes_359 : decode cL_undoes 359 = .ok (.aload_n 0, 1) := by decide +kernel
theorem dL_undoes_360 : decode cL_undoes 360 = .ok (.bipush 7, 2) := by decide +kernel
theorem dL_undoes_362 : decode cL_undoes 362 = .ok (.invokevirtual 43, 3) := by decide +kernel
theorem dL_undoes_365 : decode cL_undoes 365 = .ok (.iload 6, 2) := by decide +kernel
theorem dL_undoes_367 : decode cL_undoes 367 = .ok (.if_icmp .eq 5, 3) := by decide +kernel
theorem dL_undoes_370 : decode cL_undoes 370 = .ok (.iconst 0, 1) := by decide +kernel
theorem dL_undoes_371 : decode cL_undoes 371 = .ok (.ireturn, 1) := by decide +kernel
theorem dL_undoes_372 : decode cL_undoes 372 = .ok (.iconst 1, 1) := by decide +kernel
theorem dL_undoes_373 : decode cL_undoes 373 = .ok (.istore 7, 2) := by decide +kernel
theorem dL_undoes_375 : decode cL_undoes 375 = .ok (.iload 7, 2) := by decide +kernel
theorem dL_undoes_377 : decode cL_undoes 377 = .ok (.iload 4, 2) := by decide +kernel
theorem dL_undoes_379 : decode cL_undoes 379 = .ok (.if_icmp .gt 45, 3) := by decide +kernel
theorem dL_undoes_382 : decode cL_undoes 382 = .ok (.iload 7, 2) := by decide +kernel
theorem dL_undoes_384 : decode cL_undoes 384 = .ok (.iload 6, 2) := by decide +kernel
theorem dL_undoes_386 : decode cL_undoes 386 = .ok (.if_icmp .gt 38, 3) := by decide +kernel
theorem dL_undoes_389 : decode cL_undoes 389 = .ok (.aload_n 0, 1) := by decide +kernel
theorem dL_undoes_390 : decode cL_undoes 390 = .ok (.invokevirtual 92, 3) := by decide +kernel
theorem dL_undoes_393 : decode cL_undoes 393 = .ok (.iload 6, 2) := by decide +kernel
theorem dL_undoes_395 : decode cL_undoes 395 = .ok (.iload 7, 2) := by decide +kernel
theorem dL_undoes_397 : decode cL_undoes 397 = .ok (.isub, 1) := by decide +kernel
theorem dL_undoes_398 : decode cL_undoes 398 = .ok (.if_icmp .ne 18, 3) := by decide +kernel
theorem dL_undoes_401 : decode cL_undoes 401 = .ok (.aload_n 0, 1) := by decide +kernel
theorem dL_undoes_402 : decode cL_undoes 402 = .ok (.invokestatic 66, 3) := by decide +kernel
theorem dL_undoes_405 : decode cL_undoes 405 = .ok (.aload_n 3, 1) := by decide +kernel
theorem dL_undoes_406 : decode cL_undoes 406 = .ok (.iload 4, 2) := by decide +kernel
theorem dL_undoes_408 : decode cL_undoes 408 = .ok (.iload 7, 2) := by decide +kernel
theorem dL_undoes_410 : decode cL_undoes 410 = .ok (.isub, 1) := by decide +kernel
theorem dL_undoes_411 : decode cL_undoes 411 = .ok (.laload, 1) := by decide +kernel
theorem dL_undoes_412 : decode cL_undoes 412 = .ok (.lcmp, 1) := by decide +kernel
theorem dL_undoes_413 : decode cL_undoes 413 = .ok (.ifCond .eq 5, 3) := by decide +kernel
theorem dL_undoes_416 : decode cL_undoes 416 = .ok (.iconst 0, 1) := by decide +kernel
theorem dL_undoes_417 : decode cL_undoes 417 = .ok (.ireturn, 1) := by decide +kernel
theorem dL_undoes_418 : decode cL_undoes 418 = .ok (.iinc 7 1, 3) := by decide +kernel
theorem dL_undoes_421 : decode cL_undoes 421 = .ok (.goto (-46), 3) := by decide +kernel
theorem dL_undoes_424 : decode cL_undoes 424 = .ok (.iconst 1, 1) := by decide +kernel
theorem dL_undoes_425 : decode cL_undoes 425 = .ok (.ireturn, 1) := by decide +kernel
set_option maxRecDepth 20000 in
theorem ggL_says_X7_write : GoodIn wsL_says wsX7_write := goodIn_r _ [6, 7, 8, 9, 10, 5, 11, 12, 13, 14, 15, 16, 17, 18, 19, 20, 21, 22, 23, 24, 25, 26, 27, 28, 29, 30, 31, 32, 33, 34, 35] rfl (by decide +kernel)
set_option maxRecDepth 20000 in
theorem gL_says_X7_write : GoodIn wsL_says (wsV RL 9 RX7 yX7_write wsX7_write) := goodIn_app (goodIn_of _ (by decide +kernel)) ggL_says_X7_write
theorem dL_says_0 : decode cL_says 0 = .ok (.iconst 4, 1) := by decide +kernel
theorem dL_says_1 : decode cL_says 1 = .ok (.newarray .int, 2) := by decide +kernel
theorem dL_says_3 : decode cL_says 3 = .ok (.astore 5, 2) := by decide +kernel
theorem dL_says_5 : decode cL_says 5 = .ok (.aload 5, 2) := by decide +kernel
theorem dL_says_7 : decode cL_says 7 = .ok (.iconst 0, 1) := by decide +kernel
theorem dL_says_8 : decode cL_says 8 = .ok (.iload_n 1, 1) := by decide +kernel
theorem dL_says_9 : decode cL_says 9 = .ok (.iastore, 1) := by decide +kernel
theorem dL_says_10 : decode cL_says 10 = .ok (.aload 5, 2) := by decide +kernel
theorem dL_says_12 : decode cL_says 12 = .ok (.iconst 1, 1) := by decide +kernel
theorem dL_says_13 : decode cL_says 13 = .ok (.iload_n 2, 1) := by decide +kernel
theorem dL_says_14 : decode cL_says 14 = .ok (.iastore, 1) := by decide +kernel
theorem dL_says_15 : decode cL_says 15 = .ok (.aload 5, 2) := by decide +kernel
theorem dL_says_17 : decode cL_says 17 = .ok (.iconst 2, 1) := by decide +kernel
theorem dL_says_18 : decode cL_says 18 = .ok (.iload_n 3, 1) := by decide +kernel
theorem dL_says_19 : decode cL_says 19 = .ok (.iastore, 1) := by decide +kernel
theorem dL_says_20 : decode cL_says 20 = .ok (.aload 5, 2) := by decide +kernel
theorem dL_says_22 : decode cL_says 22 = .ok (.iconst 3, 1) := by decide +kernel
theorem dL_says_23 : decode cL_says 23 = .ok (.iload 4, 2) := by decide +kernel
theorem dL_says_25 : decode cL_says 25 = .ok (.iastore, 1) := by decide +kernel
theorem dL_says_26 : decode cL_says 26 = .ok (.iconst 0, 1) := by decide +kernel
theorem dL_says_27 : decode cL_says 27 = .ok (.istore 6, 2) := by decide +kernel
theorem dL_says_29 : decode cL_says 29 = .ok (.iload 6, 2) := by decide +kernel
theorem dL_says_31 : decode cL_says 31 = .ok (.iconst 4, 1) := by decide +kernel
theorem dL_says_32 : decode cL_says 32 = .ok (.if_icmp .ge 27, 3) := by decide +kernel
theorem dL_says_35 : decode cL_says 35 = .ok (.aload 5, 2) := by decide +kernel
theorem dL_says_37 : decode cL_says 37 = .ok (.iload 6, 2) := by decide +kernel
theorem dL_says_39 : decode cL_says 39 = .ok (.iaload, 1) := by decide +kernel
theorem dL_says_40 : decode cL_says 40 = .ok (.ifCond .eq 13, 3) := by decide +kernel
theorem dL_says_43 : decode cL_says 43 = .ok (.aload_n 0, 1) := by decide +kernel
theorem dL_says_44 : decode cL_says 44 = .ok (.aload 5, 2) := by decide +kernel
theorem dL_says_46 : decode cL_says 46 = .ok (.iload 6, 2) := by decide +kernel
theorem dL_says_48 : decode cL_says 48 = .ok (.iaload, 1) := by decide +kernel
theorem dL_says_49 : decode cL_says 49 = .ok (.invokevirtual 9, 3) := by decide +kernel
theorem dL_says_52 : decode cL_says 52 = .ok (.pop, 1) := by decide +kernel
theorem dL_says_53 : decode cL_says 53 = .ok (.iinc 6 1, 3) := by decide +kernel
theorem dL_says_56 : decode cL_says 56 = .ok (.goto (-27), 3) := by decide +kernel
theorem dL_says_59 : decode cL_says 59 = .ok (.return_, 1) := by decide +kernel
set_option maxRecDepth 20000 in
theorem ggL_crane_X7_write : GoodIn wsL_crane wsX7_write := goodIn_r _ [5, 6, 7, 8, 9, 4, 10, 11, 12, 13, 14, 15, 16, 17, 18, 19, 20, 21, 26, 27, 28, 29, 30, 31, 32, 33, 34, 35, 36, 37, 38] rfl (by decide +kernel)
set_option maxRecDepth 20000 in
theorem gL_crane_X7_write : GoodIn wsL_crane (wsV RL 9 RX7 yX7_write wsX7_write) := goodIn_app (goodIn_of _ (by decide +kernel)) ggL_crane_X7_write
set_option maxRecDepth 20000 in
theorem ggL_crane_L_number : GoodIn wsL_crane wsL_number := goodIn_r _ [25, 1, 2, 3, 4, 5, 6, 7, 8, 9, 10, 11, 12, 13, 14, 15, 16, 17, 18, 19, 20, 21, 26, 27, 28, 29, 30, 31, 32, 33, 34, 35, 36, 37, 38] rfl (by decide +kernel)
set_option maxRecDepth 20000 in
theorem gL_crane_L_number : GoodIn wsL_crane (va_wsS RL 29 yL_number wsL_number) := goodIn_app (goodIn_of _ (by decide +kernel)) ggL_crane_L_number
theorem dL_crane_0 : decode cL_crane 0 = .ok (.aload_n 0, 1) := by decide +kernel
theorem dL_crane_1 : decode cL_crane 1 = .ok (.bipush 99, 2) := by decide +kernel
theorem dL_crane_3 : decode cL_crane 3 = .ok (.invokevirtual 9, 3) := by decide +kernel
theorem dL_crane_6 : decode cL_crane 6 = .ok (.pop, 1) := by decide +kernel
theorem dL_crane_7 : decode cL_crane 7 = .ok (.aload_n 0, 1) := by decide +kernel
theorem dL_crane_8 : decode cL_crane 8 = .ok (.iload_n 1, 1) := by decide +kernel
theorem dL_crane_9 : decode cL_crane 9 = .ok (.bipush 44, 2) := by decide +kernel
theorem dL_crane_11 : decode cL_crane 11 = .ok (.invokestatic 29, 3) := by decide +kernel
theorem dL_crane_14 : decode cL_crane 14 = .ok (.aload_n 0, 1) := by decide +kernel
theorem dL_crane_15 : decode cL_crane 15 = .ok (.iload_n 2, 1) := by decide +kernel
theorem dL_crane_16 : decode cL_crane 16 = .ok (.bipush 44, 2) := by decide +kernel
theorem dL_crane_18 : decode cL_crane 18 = .ok (.invokestatic 29, 3) := by decide +kernel
theorem dL_crane_21 : decode cL_crane 21 = .ok (.aload_n 0, 1) := by decide +kernel
theorem dL_crane_22 : decode cL_crane 22 = .ok (.iload_n 3, 1) := by decide +kernel
theorem dL_crane_23 : decode cL_crane 23 = .ok (.bipush 44, 2) := by decide +kernel
theorem dL_crane_25 : decode cL_crane 25 = .ok (.invokestatic 29, 3) := by decide +kernel
theorem dL_crane_28 : decode cL_crane 28 = .ok (.aload_n 0, 1) := by decide +kernel
theorem dL_crane_29 : decode cL_crane 29 = .ok (.iload 4, 2) := by decide +kernel
theorem dL_crane_31 : decode cL_crane 31 = .ok (.bipush 59, 2) := by decide +kernel
theorem dL_crane_33 : decode cL_crane 33 = .ok (.invokestatic 29, 3) := by decide +kernel
theorem dL_crane_36 : decode cL_crane 36 = .ok (.return_, 1) := by decide +kernel
set_option maxRecDepth 20000 in
theorem ggL_most_X7_write : GoodIn wsL_most wsX7_write := goodIn_r _ [5, 6, 7, 8, 9, 4, 10, 11, 12, 13, 14, 15, 16, 17, 18, 19, 20, 21, 26, 27, 28, 29, 30, 31, 32, 33, 34, 35, 36, 37, 38] rfl (by decide +kernel)
set_option maxRecDepth 20000 in
theorem gL_most_X7_write : GoodIn wsL_most (wsV RL 9 RX7 yX7_write wsX7_write) := goodIn_app (goodIn_of _ (by decide +kernel)) ggL_most_X7_write
set_option maxRecDepth 20000 in
theorem ggL_most_L_number : GoodIn wsL_most wsL_number := goodIn_r _ [25, 1, 2, 3, 4, 5, 6, 7, 8, 9, 10, 11, 12, 13, 14, 15, 16, 17, 18, 19, 20, 21, 26, 27, 28, 29, 30, 31, 32, 33, 34, 35, 36, 37, 38] rfl (by decide +kernel)
set_option maxRecDepth 20000 in
theorem gL_most_L_number : GoodIn wsL_most (va_wsS RL 29 yL_number wsL_number) := goodIn_app (goodIn_of _ (by decide +kernel)) ggL_most_L_number
theorem dL_most_0 : decode cL_most 0 = .ok (.aload_n 0, 1) := by decide +kernel
theorem dL_most_1 : decode cL_most 1 = .ok (.bipush 107, 2) := by decide +kernel
theorem dL_most_3 : decode cL_most 3 = .ok (.invokevirtual 9, 3) := by decide +kernel
theorem dL_most_6 : decode cL_most 6 = .ok (.pop, 1) := by decide +kernel
theorem dL_most_7 : decode cL_most 7 = .ok (.aload_n 0, 1) := by decide +kernel
theorem dL_most_8 : decode cL_most 8 = .ok (.iload_n 1, 1) := by decide +kernel
theorem dL_most_9 : decode cL_most 9 = .ok (.bipush 44, 2) := by decide +kernel
theorem dL_most_11 : decode cL_most 11 = .ok (.invokestatic 29, 3) := by decide +kernel
theorem dL_most_14 : decode cL_most 14 = .ok (.aload_n 0, 1) := by decide +kernel
theorem dL_most_15 : decode cL_most 15 = .ok (.iload_n 2, 1) := by decide +kernel
theorem dL_most_16 : decode cL_most 16 = .ok (.bipush 44, 2) := by decide +kernel
theorem dL_most_18 : decode cL_most 18 = .ok (.invokestatic 29, 3) := by decide +kernel
theorem dL_most_21 : decode cL_most 21 = .ok (.aload_n 0, 1) := by decide +kernel
theorem dL_most_22 : decode cL_most 22 = .ok (.iload_n 3, 1) := by decide +kernel
theorem dL_most_23 : decode cL_most 23 = .ok (.bipush 59, 2) := by decide +kernel
theorem dL_most_25 : decode cL_most 25 = .ok (.invokestatic 29, 3) := by decide +kernel
theorem dL_most_28 : decode cL_most 28 = .ok (.return_, 1) := by decide +kernel
set_option maxRecDepth 20000 in
theorem ggL_isFault_L_whole : GoodIn wsL_isFault wsL_whole := goodIn_r _ [4, 5, 6, 7, 8, 9, 10, 11, 12, 13, 14, 15, 16, 17, 18, 19, 20, 21, 22, 23, 24, 25, 26, 27, 28, 29, 30, 31, 32, 33, 34, 35, 36, 37, 38, 39, 40, 41, 42, 43, 44, 45, 46, 47, 48, 49, 50, 51, 52, 53, 54, 55, 56, 57, 58, 59, 60, 61, 62, 63, 64, 65, 66, 67, 68, 69, 70, 71, 72, 73, 74, 75, 76, 77, 78, 79, 80, 81, 82, 83, 84, 85, 86, 87, 88, 89, 90, 91, 92, 93, 94, 95, 96, 97, 98, 99, 100, 101, 102, 103, 104, 105, 106, 107, 108, 109, 110, 111, 112, 113, 114, 115, 116, 117, 118, 119, 120, 121, 122, 123, 124, 125, 126, 127, 128, 129, 130, 131, 132, 133, 134, 135, 136, 137, 138, 139, 140, 141, 142, 258, 259, 260, 261, 262, 263, 264, 265, 266, 267, 268, 269, 270, 271, 272, 273, 274, 275, 276, 277, 278, 279, 280, 281, 282, 283, 284, 285, 286, 287, 288, 289, 290, 291, 292, 293, 294, 295, 296, 297, 298, 299, 300] rfl (by decide +kernel)
set_option maxRecDepth 20000 in
theorem gL_isFault_L_whole : GoodIn wsL_isFault (va_wsS RL 66 yL_whole wsL_whole) := goodIn_app (goodIn_of _ (by decide +kernel)) ggL_isFault_L_whole
set_option maxRecDepth 20000 in
theorem ggL_isFault_X7_count : GoodIn wsL_isFault wsX7_count := goodIn_r _ [11, 12, 13, 14, 15, 16, 17, 18, 19, 20, 21, 22, 23, 24, 25, 26, 27, 28, 29, 30, 31, 32, 33, 258, 259, 260, 261, 262, 263, 264, 265, 266, 267, 268, 269, 270, 271, 272, 273, 274, 275, 276, 277, 278, 279, 280, 281, 282, 283, 284, 285, 286, 287, 288, 289, 290, 291, 292, 293, 294, 295, 296, 297] rfl (by decide +kernel)
set_option maxRecDepth 20000 in
theorem gL_isFault_X7_count : GoodIn wsL_isFault (wsV RL 43 RX7 yX7_count wsX7_count) := goodIn_app (goodIn_of _ (by decide +kernel)) ggL_isFault_X7_count
set_option maxRecDepth 20000 in
theorem ggL_isFault_X7_fault : GoodIn wsL_isFault wsX7_fault := goodIn_r _ [146, 23, 147, 148, 149, 150, 151, 152, 153, 154, 155, 156, 157, 158, 159, 160, 161, 162, 163, 164, 165, 166, 167, 168, 169, 170, 171, 172, 173, 174, 175, 176, 177, 178, 179, 180, 181, 182, 183, 184, 185, 186, 187, 188, 189, 190, 191, 192, 95, 10, 96, 193, 194, 195, 196, 197, 198, 199, 200, 201, 202, 203, 204, 205, 206, 48, 49, 207, 208, 94, 209, 210, 211, 212, 213, 214, 215, 258, 259, 260, 261, 262, 263, 264, 265, 266, 267, 282, 283, 284, 268, 269, 270, 271, 272, 273, 274, 301, 302, 303] rfl (by decide +kernel)
set_option maxRecDepth 20000 in
theorem gL_isFault_X7_fault : GoodIn wsL_isFault (wsV RL 33 RX7 yX7_fault wsX7_fault) := goodIn_app (goodIn_of _ (by decide +kernel)) ggL_isFault_X7_fault
set_option maxRecDepth 20000 in
theorem ggL_isFault_X7_lay : GoodIn wsL_isFault wsX7_lay := goodIn_r _ [219, 23, 147, 12, 18, 22, 13, 148, 149, 150, 151, 152, 153, 154, 155, 156, 157, 158, 159, 160, 161, 162, 163, 164, 165, 166, 167, 168, 169, 170, 171, 172, 173, 174, 175, 176, 177, 178, 179, 180, 181, 182, 183, 184, 185, 186, 187, 188, 189, 190, 191, 192, 95, 10, 96, 193, 194, 195, 196, 197, 198, 199, 200, 201, 202, 203, 204, 205, 206, 48, 49, 207, 208, 94, 209, 210, 211, 212, 213, 214, 215, 220, 221, 222, 223, 224, 225, 226, 227, 119, 228, 229, 121, 230, 122, 231, 232, 233, 234, 28, 235, 32, 236, 30, 237, 238, 239, 240, 241, 57, 242, 243, 244, 84, 245, 246, 247, 60, 86, 88, 85, 248, 249, 250, 251, 252, 253, 101, 69, 102, 70, 258, 259, 260, 261, 262, 263, 264, 265, 266, 267, 268, 269, 270, 271, 272, 273, 274, 282, 283, 284, 301, 302, 303, 275, 276, 277, 278, 298, 299, 300, 279, 280, 281, 285, 286, 287, 288, 289, 290, 291, 292, 293, 294, 295, 296, 297] rfl (by decide +kernel)
set_option maxRecDepth 20000 in
theorem gL_isFault_X7_lay : GoodIn wsL_isFault (wsV RL 36 RX7 yX7_lay wsX7_lay) := goodIn_app (goodIn_of _ (by decide +kernel)) ggL_isFault_X7_lay
set_option maxRecDepth 20000 in
theorem ggL_isFault_X7_wipe : GoodIn wsL_isFault wsX7_wipe := goodIn_r _ [257, 23, 24, 258, 259, 260, 261, 262, 263, 264, 265, 266, 267, 282, 283, 284] rfl (by decide +kernel)
set_option maxRecDepth 20000 in
theorem gL_isFault_X7_wipe : GoodIn wsL_isFault (wsV RL 17 RX7 yX7_wipe wsX7_wipe) := goodIn_app (goodIn_of _ (by decide +kernel)) ggL_isFault_X7_wipe
theorem dL_isFault_0 : decode cL_isFault 0 = .ok (.aload_n 0, 1) := by decide +kernel
theorem dL_isFault_1 : decode cL_isFault 1 = .ok (.invokestatic 66, 3) := by decide +kernel
theorem dL_isFault_4 : decode cL_isFault 4 = .ok (.lstore_n 2, 1) := by decide +kernel
theorem dL_isFault_5 : decode cL_isFault 5 = .ok (.aload_n 0, 1) := by decide +kernel
theorem dL_isFault_6 : decode cL_isFault 6 = .ok (.bipush 8, 2) := by decide +kernel
theorem dL_isFault_8 : decode cL_isFault 8 = .ok (.invokevirtual 43, 3) := by decide +kernel
theorem dL_isFault_11 : decode cL_isFault 11 = .ok (.istore 4, 2) := by decide +kernel
theorem dL_isFault_13 : decode cL_isFault 13 = .ok (.aload_n 0, 1) := by decide +kernel
theorem dL_isFault_14 : decode cL_isFault 14 = .ok (.bipush 7, 2) := by decide +kernel
theorem dL_isFault_16 : decode cL_isFault 16 = .ok (.invokevirtual 43, 3) := by decide +kernel
theorem dL_isFault_19 : decode cL_isFault 19 = .ok (.istore 5, 2) := by decide +kernel
theorem dL_isFault_21 : decode cL_isFault 21 = .ok (.aload_n 0, 1) := by decide +kernel
theorem dL_isFault_22 : decode cL_isFault 22 = .ok (.invokevirtual 33, 3) := by decide +kernel
theorem dL_isFault_25 : decode cL_isFault 25 = .ok (.iload_n 1, 1) := by decide +kernel
theorem dL_isFault_26 : decode cL_isFault 26 = .ok (.if_icmp .ne 47, 3) := by decide +kernel
theorem dL_isFault_29 : decode cL_isFault 29 = .ok (.aload_n 0, 1) := by decide +kernel
theorem dL_isFault_30 : decode cL_isFault 30 = .ok (.invokevirtual 36, 3) := by decide +kernel
theorem dL_isFault_33 : decode cL_isFault 33 = .ok (.bipush (-2), 2) := by decide +kernel
theorem dL_isFault_35 : decode cL_isFault 35 = .ok (.if_icmp .ne 38, 3) := by decide +kernel
theorem dL_isFault_38 : decode cL_isFault 38 = .ok (.aload_n 0, 1) := by decide +kernel
theorem dL_isFault_39 : decode cL_isFault 39 = .ok (.invokestatic 66, 3) := by decide +kernel
theorem dL_isFault_42 : decode cL_isFault 42 = .ok (.lload_n 2, 1) := by decide +kernel
theorem dL_isFault_43 : decode cL_isFault 43 = .ok (.lcmp, 1) := by decide +kernel
theorem dL_isFault_44 : decode cL_isFault 44 = .ok (.ifCond .ne 29, 3) := by decide +kernel
theorem dL_isFault_47 : decode cL_isFault 47 = .ok (.aload_n 0, 1) := by decide +kernel
theorem dL_isFault_48 : decode cL_isFault 48 = .ok (.bipush 8, 2) := by decide +kernel
theorem dL_isFault_50 : decode cL_isFault 50 = .ok (.invokevirtual 43, 3) := by decide +kernel
theorem dL_isFault_53 : decode cL_isFault 53 = .ok (.iload 4, 2) := by decide +kernel
theorem dL_isFault_55 : decode cL_isFault 55 = .ok (.if_icmp .ne 18, 3) := by decide +kernel
theorem dL_isFault_58 : decode cL_isFault 58 = .ok (.aload_n 0, 1) := by decide +kernel
theorem dL_isFault_59 : decode cL_isFault 59 = .ok (.bipush 7, 2) := by decide +kernel
theorem dL_isFault_61 : decode cL_isFault 61 = .ok (.invokevirtual 43, 3) := by decide +kernel
theorem dL_isFault_64 : decode cL_isFault 64 = .ok (.iload 5, 2) := by decide +kernel
theorem dL_isFault_66 : decode cL_isFault 66 = .ok (.if_icmp .ne 7, 3) := by decide +kernel
theorem dL_isFault_69 : decode cL_isFault 69 = .ok (.iconst 1, 1) := by decide +kernel
theorem dL_isFault_70 : decode cL_isFault 70 = .ok (.goto 4, 3) := by decide +kernel
theorem dL_isFault_73 : decode cL_isFault 73 = .ok (.iconst 0, 1) := by decide +kernel
theorem dL_isFault_74 : decode cL_isFault 74 = .ok (.istore 6, 2) := by decide +kernel
theorem dL_isFault_76 : decode cL_isFault 76 = .ok (.iload 6, 2) := by decide +kernel
theorem dL_isFault_78 : decode cL_isFault 78 = .ok (.ifCond .eq 25, 3) := by decide +kernel
theorem dL_isFault_81 : decode cL_isFault 81 = .ok (.aload_n 0, 1) := by decide +kernel
theorem dL_isFault_82 : decode cL_isFault 82 = .ok (.invokevirtual 17, 3) := by decide +kernel
theorem dL_isFault_85 : decode cL_isFault 85 = .ok (.iload 4, 2) := by decide +kernel
theorem dL_isFault_87 : decode cL_isFault 87 = .ok (.if_icmp .ne 16, 3) := by decide +kernel
theorem dL_isFault_90 : decode cL_isFault 90 = .ok (.aload_n 0, 1) := by decide +kernel
theorem dL_isFault_91 : decode cL_isFault 91 = .ok (.bipush 8, 2) := by decide +kernel
theorem dL_isFault_93 : decode cL_isFault 93 = .ok (.invokevirtual 43, 3) := by decide +kernel
theorem dL_isFault_96 : decode cL_isFault 96 = .ok (.ifCond .ne 7, 3) := by decide +kernel
theorem dL_isFault_99 : decode cL_isFault 99 = .ok (.iconst 1, 1) := by decide +kernel
theorem dL_isFault_100 : decode cL_isFault 100 = .ok (.goto 4, 3) := by decide +kernel
theorem dL_isFault_103 : decode cL_isFault 103 = .ok (.iconst 0, 1) := by decide +kernel
theorem dL_isFault_104 : decode cL_isFault 104 = .ok (.ireturn, 1) := by decide +kernel
set_option maxRecDepth 20000 in
theorem ggL_faults_X7_wipe : GoodIn wsL_faults wsX7_wipe := goodIn_r _ [5, 6, 7, 286, 287, 288, 289, 290, 291, 292, 293, 294, 295, 296, 297, 298] rfl (by decide +kernel)
set_option maxRecDepth 20000 in
theorem gL_faults_X7_wipe : GoodIn wsL_faults (wsV RL 17 RX7 yX7_wipe wsX7_wipe) := goodIn_app (goodIn_of _ (by decide +kernel)) ggL_faults_X7_wipe
set_option maxRecDepth 20000 in
theorem ggL_faults_L_says : GoodIn wsL_faults wsL_says := goodIn_r _ [11, 12, 13, 14, 15, 4, 16, 6, 7, 17, 18, 19, 20, 21, 22, 23, 24, 25, 26, 27, 28, 29, 30, 286, 287, 288, 289, 290, 291, 292, 293, 294, 295, 296, 297, 298] rfl (by decide +kernel)
set_option maxRecDepth 20000 in
theorem gL_faults_L_says : GoodIn wsL_faults (va_wsS RL 95 yL_says wsL_says) := goodIn_app (goodIn_of _ (by decide +kernel)) ggL_faults_L_says
set_option maxRecDepth 20000 in
theorem ggL_faults_L_isFault : GoodIn wsL_faults wsL_isFault := goodIn_r _ [33, 34, 35, 10, 36, 37, 38, 39, 40, 41, 4, 42, 43, 44, 45, 46, 47, 48, 49, 50, 51, 52, 53, 6, 7, 54, 55, 56, 57, 58, 59, 60, 61, 62, 63, 64, 65, 66, 67, 68, 69, 70, 71, 72, 73, 74, 75, 76, 77, 78, 79, 80, 81, 82, 83, 84, 85, 86, 87, 88, 89, 90, 91, 92, 93, 94, 95, 96, 97, 98, 99, 100, 101, 102, 103, 104, 105, 106, 107, 108, 109, 110, 111, 112, 113, 114, 115, 116, 117, 118, 119, 120, 121, 122, 17, 18, 19, 123, 124, 125, 126, 127, 128, 129, 130, 131, 132, 133, 134, 135, 136, 137, 138, 139, 140, 141, 142, 143, 144, 145, 146, 147, 148, 149, 150, 151, 152, 153, 154, 155, 156, 157, 158, 159, 160, 161, 162, 163, 164, 165, 166, 167, 168, 169, 170, 171, 172, 173, 174, 175, 176, 23, 177, 178, 25, 179, 180, 181, 182, 183, 184, 185, 186, 187, 188, 189, 190, 191, 192, 193, 194, 195, 196, 197, 198, 199, 200, 201, 202, 203, 204, 205, 206, 30, 207, 208, 209, 210, 211, 212, 213, 214, 215, 216, 217, 218, 219, 220, 221, 222, 223, 224, 225, 226, 227, 228, 229, 230, 231, 232, 233, 234, 235, 236, 237, 238, 239, 240, 241, 242, 243, 244, 245, 246, 247, 248, 249, 250, 251, 252, 253, 254, 255, 256, 257, 258, 259, 260, 261, 262, 263, 264, 265, 266, 267, 268, 269, 270, 271, 272, 273, 274, 275, 276, 1, 2, 3, 5, 286, 287, 288, 289, 290, 291, 292, 293, 294, 295, 299, 300, 301, 302, 303, 304, 305, 306, 307, 308, 309, 310, 311, 312, 296, 297, 298, 313, 314, 315, 316, 317, 318, 319, 320, 321, 322, 323, 324, 325, 326, 327, 328, 329, 330, 331] rfl (by decide +kernel)
set_option maxRecDepth 20000 in
theorem gL_faults_L_isFault : GoodIn wsL_faults (va_wsS RL 99 yL_isFault wsL_isFault) := goodIn_app (goodIn_of _ (by decide +kernel)) ggL_faults_L_isFault
set_option maxRecDepth 20000 in
theorem ggL_faults_X7_write : GoodIn wsL_faults wsX7_write := goodIn_r _ [16, 6, 7, 17, 18, 4, 19, 20, 21, 22, 23, 24, 25, 26, 27, 28, 29, 30, 286, 287, 288, 289, 290, 291, 292, 293, 294, 295, 296, 297, 298] rfl (by decide +kernel)
set_option maxRecDepth 20000 in
theorem gL_faults_X7_write : GoodIn wsL_faults (wsV RL 9 RX7 yX7_write wsX7_write) := goodIn_app (goodIn_of _ (by decide +kernel)) ggL_faults_X7_write
set_option maxRecDepth 20000 in
theorem ggL_faults_L_crane : GoodIn wsL_faults wsL_crane := goodIn_r _ [279, 13, 14, 15, 4, 16, 6, 7, 17, 18, 19, 20, 21, 22, 23, 24, 25, 26, 27, 28, 29, 30, 280, 281, 10, 282, 286, 287, 288, 289, 290, 291, 292, 293, 294, 295, 296, 297, 298] rfl (by decide +kernel)
set_option maxRecDepth 20000 in
theorem gL_faults_L_crane : GoodIn wsL_faults (va_wsS RL 103 yL_crane wsL_crane) := goodIn_app (goodIn_of _ (by decide +kernel)) ggL_faults_L_crane
set_option maxRecDepth 20000 in
theorem ggL_faults_L_most : GoodIn wsL_faults wsL_most := goodIn_r _ [285, 13, 14, 15, 4, 16, 6, 7, 17, 18, 19, 20, 21, 22, 23, 24, 25, 26, 27, 28, 29, 30, 280, 281, 10, 282, 286, 287, 288, 289, 290, 291, 292, 293, 294, 295, 296, 297, 298] rfl (by decide +kernel)
set_option maxRecDepth 20000 in
theorem gL_faults_L_most : GoodIn wsL_faults (va_wsS RL 105 yL_most wsL_most) := goodIn_app (goodIn_of _ (by decide +kernel)) ggL_faults_L_most
theorem dL_faults_0 : decode cL_faults 0 = .ok (.aload_n 0, 1) := by decide +kernel
theorem dL_faults_1 : decode cL_faults 1 = .ok (.invokevirtual 17, 3) := by decide +kernel
theorem dL_faults_4 : decode cL_faults 4 = .ok (.pop, 1) := by decide +kernel
theorem dL_faults_5 : decode cL_faults 5 = .ok (.aload_n 0, 1) := by decide +kernel
theorem dL_faults_6 : decode cL_faults 6 = .ok (.bipush 120, 2) := by decide +kernel
theorem dL_faults_8 : decode cL_faults 8 = .ok (.iconst 0, 1) := by decide +kernel
theorem dL_faults_9 : decode cL_faults 9 = .ok (.iconst 0, 1) := by decide +kernel
theorem dL_faults_10 : decode cL_faults 10 = .ok (.iconst 0, 1) := by decide +kernel
theorem dL_faults_11 : decode cL_faults 11 = .ok (.invokestatic 95, 3) := by decide +kernel
theorem dL_faults_14 : decode cL_faults 14 = .ok (.aload_n 0, 1) := by decide +kernel
theorem dL_faults_15 : decode cL_faults 15 = .ok (.iconst 0, 1) := by decide +kernel
theorem dL_faults_16 : decode cL_faults 16 = .ok (.invokestatic 99, 3) := by decide +kernel
theorem dL_faults_19 : decode cL_faults 19 = .ok (.ifCond .ne 5, 3) := by decide +kernel
theorem dL_faults_22 : decode cL_faults 22 = .ok (.iconst 0, 1) := by decide +kernel
theorem dL_faults_23 : decode cL_faults 23 = .ok (.ireturn, 1) := by decide +kernel
theorem dL_faults_24 : decode cL_faults 24 = .ok (.aload_n 0, 1) := by decide +kernel
theorem dL_faults_25 : decode cL_faults 25 = .ok (.bipush 101, 2) := by decide +kernel
theorem dL_faults_27 : decode cL_faults 27 = .ok (.bipush 49, 2) := by decide +kernel
theorem dL_faults_29 : decode cL_faults 29 = .ok (.bipush 57, 2) := by decide +kernel
theorem dL_faults_31 : decode cL_faults 31 = .ok (.bipush 57, 2) := by decide +kernel
theorem dL_faults_33 : decode cL_faults 33 = .ok (.invokestatic 95, 3) := by decide +kernel
theorem dL_faults_36 : decode cL_faults 36 = .ok (.aload_n 0, 1) := by decide +kernel
theorem dL_faults_37 : decode cL_faults 37 = .ok (.bipush 59, 2) := by decide +kernel
theorem dL_faults_39 : decode cL_faults 39 = .ok (.invokevirtual 9, 3) := by decide +kernel
theorem dL_faults_42 : decode cL_faults 42 = .ok (.pop, 1) := by decide +kernel
theorem dL_faults_43 : decode cL_faults 43 = .ok (.aload_n 0, 1) := by decide +kernel
theorem dL_faults_44 : decode cL_faults 44 = .ok (.iconst 0, 1) := by decide +kernel
theorem dL_faults_45 : decode cL_faults 45 = .ok (.invokestatic 99, 3) := by decide +kernel
theorem dL_faults_48 : decode cL_faults 48 = .ok (.ifCond .ne 5, 3) := by decide +kernel
theorem dL_faults_51 : decode cL_faults 51 = .ok (.iconst 0, 1) := by decide +kernel
theorem dL_faults_52 : decode cL_faults 52 = .ok (.ireturn, 1) := by decide +kernel
theorem dL_faults_53 : decode cL_faults 53 = .ok (.aload_n 0, 1) := by decide +kernel
theorem dL_faults_54 : decode cL_faults 54 = .ok (.bipush 101, 2) := by decide +kernel
theorem dL_faults_56 : decode cL_faults 56 = .ok (.bipush 48, 2) := by decide +kernel
theorem dL_faults_58 : decode cL_faults 58 = .ok (.bipush 54, 2) := by decide +kernel
theorem dL_faults_60 : decode cL_faults 60 = .ok (.bipush 48, 2) := by decide +kernel
theorem dL_faults_62 : decode cL_faults 62 = .ok (.invokestatic 95, 3) := by decide +kernel
theorem dL_faults_65 : decode cL_faults 65 = .ok (.aload_n 0, 1) := by decide +kernel
theorem dL_faults_66 : decode cL_faults 66 = .ok (.bipush 48, 2) := by decide +kernel
theorem dL_faults_68 : decode cL_faults 68 = .ok (.bipush 59, 2) := by decide +kernel
theorem dL_faults_70 : decode cL_faults 70 = .ok (.iconst 0, 1) := by decide +kernel
theorem dL_faults_71 : decode cL_faults 71 = .ok (.iconst 0, 1) := by decide +kernel
theorem dL_faults_72 : decode cL_faults 72 = .ok (.invokestatic 95, 3) := by decide +kernel
theorem dL_faults_75 : decode cL_faults 75 = .ok (.aload_n 0, 1) := by decide +kernel
theorem dL_faults_76 : decode cL_faults 76 = .ok (.iconst 0, 1) := by decide +kernel
theorem dL_faults_77 : decode cL_faults 77 = .ok (.invokestatic 99, 3) := by decide +kernel
theorem dL_faults_80 : decode cL_faults 80 = .ok (.ifCond .ne 5, 3) := by decide +kernel
theorem dL_faults_83 : decode cL_faults 83 = .ok (.iconst 0, 1) := by decide +kernel
theorem dL_faults_84 : decode cL_faults 84 = .ok (.ireturn, 1) := by decide +kernel
theorem dL_faults_85 : decode cL_faults 85 = .ok (.aload_n 0, 1) := by decide +kernel
theorem dL_faults_86 : decode cL_faults 86 = .ok (.bipush 103, 2) := by decide +kernel
theorem dL_faults_88 : decode cL_faults 88 = .ok (.bipush 57, 2) := by decide +kernel
theorem dL_faults_90 : decode cL_faults 90 = .ok (.bipush 59, 2) := by decide +kernel
theorem dL_faults_92 : decode cL_faults 92 = .ok (.iconst 0, 1) := by decide +kernel
theorem dL_faults_93 : decode cL_faults 93 = .ok (.invokestatic 95, 3) := by decide +kernel
theorem dL_faults_96 : decode cL_faults 96 = .ok (.aload_n 0, 1) := by decide +kernel
theorem dL_faults_97 : decode cL_faults 97 = .ok (.iconst 0, 1) := by decide +kernel
theorem dL_faults_98 : decode cL_faults 98 = .ok (.invokestatic 99, 3) := by decide +kernel
theorem dL_faults_101 : decode cL_faults 101 = .ok (.ifCond .ne 5, 3) := by decide +kernel
theorem dL_faults_104 : decode cL_faults 104 = .ok (.iconst 0, 1) := by decide +kernel
theorem dL_faults_105 : decode cL_faults 105 = .ok (.ireturn, 1) := by decide +kernel
theorem dL_faults_106 : decode cL_faults 106 = .ok (.aload_n 0, 1) := by decide +kernel
theorem dL_faults_107 : decode cL_faults 107 = .ok (.bipush 103, 2) := by decide +kernel
theorem dL_faults_109 : decode cL_faults 109 = .ok (.bipush 52, 2) := by decide +kernel
theorem dL_faults_111 : decode cL_faults 111 = .ok (.bipush 48, 2) := by decide +kernel
theorem dL_faults_113 : decode cL_faults 113 = .ok (.bipush 59, 2) := by decide +kernel
theorem dL_faults_115 : decode cL_faults 115 = .ok (.invokestatic 95, 3) := by decide +kernel
theorem dL_faults_118 : decode cL_faults 118 = .ok (.aload_n 0, 1) := by decide +kernel
theorem dL_faults_119 : decode cL_faults 119 = .ok (.bipush 103, 2) := by decide +kernel
theorem dL_faults_121 : decode cL_faults 121 = .ok (.bipush 52, 2) := by decide +kernel
theorem dL_faults_123 : decode cL_faults 123 = .ok (.bipush 48, 2) := by decide +kernel
theorem dL_faults_125 : decode cL_faults 125 = .ok (.iconst 0, 1) := by decide +kernel
theorem dL_faults_126 : decode cL_faults 126 = .ok (.invokestatic 95, 3) := by decide +kernel
theorem dL_faults_129 : decode cL_faults 129 = .ok (.aload_n 0, 1) := by decide +kernel
theorem dL_faults_130 : decode cL_faults 130 = .ok (.iconst 4, 1) := by decide +kernel
theorem dL_faults_131 : decode cL_faults 131 = .ok (.invokestatic 99, 3) := by decide +kernel
theorem dL_faults_134 : decode cL_faults 134 = .ok (.ifCond .ne 5, 3) := by decide +kernel
theorem dL_faults_137 : decode cL_faults 137 = .ok (.iconst 0, 1) := by decide +kernel
theorem dL_faults_138 : decode cL_faults 138 = .ok (.ireturn, 1) := by decide +kernel
theorem dL_faults_139 : decode cL_faults 139 = .ok (.aload_n 0, 1) := by decide +kernel
theorem dL_faults_140 : decode cL_faults 140 = .ok (.iconst 2, 1) := by decide +kernel
theorem dL_faults_141 : decode cL_faults 141 = .ok (.bipush 100, 2) := by decide +kernel
theorem dL_faults_143 : decode cL_faults 143 = .ok (.bipush 30, 2) := by decide +kernel
theorem dL_faults_145 : decode cL_faults 145 = .ok (.iconst 0, 1) := by decide +kernel
theorem dL_faults_146 : decode cL_faults 146 = .ok (.invokestatic 103, 3) := by decide +kernel
theorem dL_faults_149 : decode cL_faults 149 = .ok (.aload_n 0, 1) := by decide +kernel
theorem dL_faults_150 : decode cL_faults 150 = .ok (.iconst 0, 1) := by decide +kernel
theorem dL_faults_151 : decode cL_faults 151 = .ok (.invokestatic 99, 3) := by decide +kernel
theorem dL_faults_154 : decode cL_faults 154 = .ok (.ifCond .ne 5, 3) := by decide +kernel
theorem dL_faults_157 : decode cL_faults 157 = .ok (.iconst 0, 1) := by decide +kernel
theorem dL_faults_158 : decode cL_faults 158 = .ok (.ireturn, 1) := by decide +kernel
theorem dL_faults_159 : decode cL_faults 159 = .ok (.aload_n 0, 1) := by decide +kernel
theorem dL_faults_160 : decode cL_faults 160 = .ok (.iconst 0, 1) := by decide +kernel
theorem dL_faults_161 : decode cL_faults 161 = .ok (.bipush 100, 2) := by decide +kernel
theorem dL_faults_163 : decode cL_faults 163 = .ok (.bipush 9, 2) := by decide +kernel
theorem dL_faults_165 : decode cL_faults 165 = .ok (.iconst 0, 1) := by decide +kernel
theorem dL_faults_166 : decode cL_faults 166 = .ok (.invokestatic 103, 3) := by decide +kernel
theorem dL_faults_169 : decode cL_faults 169 = .ok (.aload_n 0, 1) := by decide +kernel
theorem dL_faults_170 : decode cL_faults 170 = .ok (.iconst 0, 1) := by decide +kernel
theorem dL_faults_171 : decode cL_faults 171 = .ok (.invokestatic 99, 3) := by decide +kernel
theorem dL_faults_174 : decode cL_faults 174 = .ok (.ifCond .ne 5, 3) := by decide +kernel
theorem dL_faults_177 : decode cL_faults 177 = .ok (.iconst 0, 1) := by decide +kernel
theorem dL_faults_178 : decode cL_faults 178 = .ok (.ireturn, 1) := by decide +kernel
theorem dL_faults_179 : decode cL_faults 179 = .ok (.aload_n 0, 1) := by decide +kernel
theorem dL_faults_180 : decode cL_faults 180 = .ok (.iconst 0, 1) := by decide +kernel
theorem dL_faults_181 : decode cL_faults 181 = .ok (.bipush 100, 2) := by decide +kernel
theorem dL_faults_183 : decode cL_faults 183 = .ok (.bipush 61, 2) := by decide +kernel
theorem dL_faults_185 : decode cL_faults 185 = .ok (.iconst 0, 1) := by decide +kernel
theorem dL_faults_186 : decode cL_faults 186 = .ok (.invokestatic 103, 3) := by decide +kernel
theorem dL_faults_189 : decode cL_faults 189 = .ok (.aload_n 0, 1) := by decide +kernel
theorem dL_faults_190 : decode cL_faults 190 = .ok (.iconst 0, 1) := by decide +kernel
theorem dL_faults_191 : decode cL_faults 191 = .ok (.invokestatic 99, 3) := by decide +kernel
theorem dL_faults_194 : decode cL_faults 194 = .ok (.ifCond .ne 5, 3) := by decide +kernel
theorem dL_faults_197 : decode cL_faults 197 = .ok (.iconst 0, 1) := by decide +kernel
theorem dL_faults_198 : decode cL_faults 198 = .ok (.ireturn, 1) := by decide +kernel
theorem dL_faults_199 : decode cL_faults 199 = .ok (.aload_n 0, 1) := by decide +kernel
theorem dL_faults_200 : decode cL_faults 200 = .ok (.iconst 0, 1) := by decide +kernel
theorem dL_faults_201 : decode cL_faults 201 = .ok (.bipush 100, 2) := by decide +kernel
theorem dL_faults_203 : decode cL_faults 203 = .ok (.bipush 30, 2) := by decide +kernel
theorem dL_faults_205 : decode cL_faults 205 = .ok (.bipush 100, 2) := by decide +kernel
theorem dL_faults_207 : decode cL_faults 207 = .ok (.invokestatic 103, 3) := by decide +kernel
theorem dL_faults_210 : decode cL_faults 210 = .ok (.aload_n 0, 1) := by decide +kernel
theorem dL_faults_211 : decode cL_faults 211 = .ok (.iconst 0, 1) := by decide +kernel
theorem dL_faults_212 : decode cL_faults 212 = .ok (.invokestatic 99, 3) := by decide +kernel
theorem dL_faults_215 : decode cL_faults 215 = .ok (.ifCond .ne 5, 3) := by decide +kernel
theorem dL_faults_218 : decode cL_faults 218 = .ok (.iconst 0, 1) := by decide +kernel
theorem dL_faults_219 : decode cL_faults 219 = .ok (.ireturn, 1) := by decide +kernel
theorem dL_faults_220 : decode cL_faults 220 = .ok (.aload_n 0, 1) := by decide +kernel
theorem dL_faults_221 : decode cL_faults 221 = .ok (.iconst 0, 1) := by decide +kernel
theorem dL_faults_222 : decode cL_faults 222 = .ok (.bipush 90, 2) := by decide +kernel
theorem dL_faults_224 : decode cL_faults 224 = .ok (.bipush 30, 2) := by decide +kernel
theorem dL_faults_226 : decode cL_faults 226 = .ok (.iconst 5, 1) := by decide +kernel
theorem dL_faults_227 : decode cL_faults 227 = .ok (.invokestatic 103, 3) := by decide +kernel
theorem dL_faults_230 : decode cL_faults 230 = .ok (.aload_n 0, 1) := by decide +kernel
theorem dL_faults_231 : decode cL_faults 231 = .ok (.iconst 0, 1) := by decide +kernel
theorem dL_faults_232 : decode cL_faults 232 = .ok (.bipush 12, 2) := by decide +kernel
theorem dL_faults_234 : decode cL_faults 234 = .ok (.bipush 6, 2) := by decide +kernel
theorem dL_faults_236 : decode cL_faults 236 = .ok (.invokestatic 105, 3) := by decide +kernel
theorem dL_faults_239 : decode cL_faults 239 = .ok (.aload_n 0, 1) := by decide +kernel
theorem dL_faults_240 : decode cL_faults 240 = .ok (.bipush 11, 2) := by decide +kernel
theorem dL_faults_242 : decode cL_faults 242 = .ok (.invokestatic 99, 3) := by decide +kernel
theorem dL_faults_245 : decode cL_faults 245 = .ok (.ifCond .ne 5, 3) := by decide +kernel
theorem dL_faults_248 : decode cL_faults 248 = .ok (.iconst 0, 1) := by decide +kernel
theorem dL_faults_249 : decode cL_faults 249 = .ok (.ireturn, 1) := by decide +kernel
theorem dL_faults_250 : decode cL_faults 250 = .ok (.aload_n 0, 1) := by decide +kernel
theorem dL_faults_251 : decode cL_faults 251 = .ok (.bipush 10, 2) := by decide +kernel
theorem dL_faults_253 : decode cL_faults 253 = .ok (.bipush 12, 2) := by decide +kernel
theorem dL_faults_255 : decode cL_faults 255 = .ok (.bipush 6, 2) := by decide +kernel
theorem dL_faults_257 : decode cL_faults 257 = .ok (.invokestatic 105, 3) := by decide +kernel
theorem dL_faults_260 : decode cL_faults 260 = .ok (.aload_n 0, 1) := by decide +kernel
theorem dL_faults_261 : decode cL_faults 261 = .ok (.iconst 0, 1) := by decide +kernel
theorem dL_faults_262 : decode cL_faults 262 = .ok (.invokestatic 99, 3) := by decide +kernel
theorem dL_faults_265 : decode cL_faults 265 = .ok (.ifCond .ne 5, 3) := by decide +kernel
theorem dL_faults_268 : decode cL_faults 268 = .ok (.iconst 0, 1) := by decide +kernel
theorem dL_faults_269 : decode cL_faults 269 = .ok (.ireturn, 1) := by decide +kernel
theorem dL_faults_270 : decode cL_faults 270 = .ok (.aload_n 0, 1) := by decide +kernel
theorem dL_faults_271 : decode cL_faults 271 = .ok (.iconst 2, 1) := by decide +kernel
theorem dL_faults_272 : decode cL_faults 272 = .ok (.bipush 41, 2) := by decide +kernel
theorem dL_faults_274 : decode cL_faults 274 = .ok (.bipush 6, 2) := by decide +kernel
theorem dL_faults_276 : decode cL_faults 276 = .ok (.invokestatic 105, 3) := by decide +kernel
theorem dL_faults_279 : decode cL_faults 279 = .ok (.aload_n 0, 1) := by decide +kernel
theorem dL_faults_280 : decode cL_faults 280 = .ok (.iconst 0, 1) := by decide +kernel
theorem dL_faults_281 : decode cL_faults 281 = .ok (.invokestatic 99, 3) := by decide +kernel
theorem dL_faults_284 : decode cL_faults 284 = .ok (.ifCond .ne 5, 3) := by decide +kernel
theorem dL_faults_287 : decode cL_faults 287 = .ok (.iconst 0, 1) := by decide +kernel
theorem dL_faults_288 : decode cL_faults 288 = .ok (.ireturn, 1) := by decide +kernel
theorem dL_faults_289 : decode cL_faults 289 = .ok (.aload_n 0, 1) := by decide +kernel
theorem dL_faults_290 : decode cL_faults 290 = .ok (.iconst 2, 1) := by decide +kernel
theorem dL_faults_291 : decode cL_faults 291 = .ok (.iconst 0, 1) := by decide +kernel
theorem dL_faults_292 : decode cL_faults 292 = .ok (.bipush 6, 2) := by decide +kernel
theorem dL_faults_294 : decode cL_faults 294 = .ok (.invokestatic 105, 3) := by decide +kernel
theorem dL_faults_297 : decode cL_faults 297 = .ok (.aload_n 0, 1) := by decide +kernel
theorem dL_faults_298 : decode cL_faults 298 = .ok (.iconst 0, 1) := by decide +kernel
theorem dL_faults_299 : decode cL_faults 299 = .ok (.invokestatic 99, 3) := by decide +kernel
theorem dL_faults_302 : decode cL_faults 302 = .ok (.ifCond .ne 5, 3) := by decide +kernel
theorem dL_faults_305 : decode cL_faults 305 = .ok (.iconst 0, 1) := by decide +kernel
theorem dL_faults_306 : decode cL_faults 306 = .ok (.ireturn, 1) := by decide +kernel
theorem dL_faults_307 : decode cL_faults 307 = .ok (.aload_n 0, 1) := by decide +kernel
theorem dL_faults_308 : decode cL_faults 308 = .ok (.iconst 2, 1) := by decide +kernel
theorem dL_faults_309 : decode cL_faults 309 = .ok (.bipush 12, 2) := by decide +kernel
theorem dL_faults_311 : decode cL_faults 311 = .ok (.bipush 41, 2) := by decide +kernel
theorem dL_faults_313 : decode cL_faults 313 = .ok (.invokestatic 105, 3) := by decide +kernel
theorem dL_faults_316 : decode cL_faults 316 = .ok (.aload_n 0, 1) := by decide +kernel
theorem dL_faults_317 : decode cL_faults 317 = .ok (.iconst 0, 1) := by decide +kernel
theorem dL_faults_318 : decode cL_faults 318 = .ok (.invokestatic 99, 3) := by decide +kernel
theorem dL_faults_321 : decode cL_faults 321 = .ok (.ifCond .ne 5, 3) := by decide +kernel
theorem dL_faults_324 : decode cL_faults 324 = .ok (.iconst 0, 1) := by decide +kernel
theorem dL_faults_325 : decode cL_faults 325 = .ok (.ireturn, 1) := by decide +kernel
theorem dL_faults_326 : decode cL_faults 326 = .ok (.aload_n 0, 1) := by decide +kernel
theorem dL_faults_327 : decode cL_faults 327 = .ok (.bipush 107, 2) := by decide +kernel
theorem dL_faults_329 : decode cL_faults 329 = .ok (.bipush 50, 2) := by decide +kernel
theorem dL_faults_331 : decode cL_faults 331 = .ok (.bipush 44, 2) := by decide +kernel
theorem dL_faults_333 : decode cL_faults 333 = .ok (.bipush 49, 2) := by decide +kernel
theorem dL_faults_335 : decode cL_faults 335 = .ok (.invokestatic 95, 3) := by decide +kernel
theorem dL_faults_338 : decode cL_faults 338 = .ok (.aload_n 0, 1) := by decide +kernel
theorem dL_faults_339 : decode cL_faults 339 = .ok (.bipush 59, 2) := by decide +kernel
theorem dL_faults_341 : decode cL_faults 341 = .ok (.invokevirtual 9, 3) := by decide +kernel
theorem dL_faults_344 : decode cL_faults 344 = .ok (.pop, 1) := by decide +kernel
theorem dL_faults_345 : decode cL_faults 345 = .ok (.aload_n 0, 1) := by decide +kernel
theorem dL_faults_346 : decode cL_faults 346 = .ok (.iconst 0, 1) := by decide +kernel
theorem dL_faults_347 : decode cL_faults 347 = .ok (.invokestatic 99, 3) := by decide +kernel
theorem dL_faults_350 : decode cL_faults 350 = .ok (.ifCond .ne 5, 3) := by decide +kernel
theorem dL_faults_353 : decode cL_faults 353 = .ok (.iconst 0, 1) := by decide +kernel
theorem dL_faults_354 : decode cL_faults 354 = .ok (.ireturn, 1) := by decide +kernel
theorem dL_faults_355 : decode cL_faults 355 = .ok (.aload_n 0, 1) := by decide +kernel
theorem dL_faults_356 : decode cL_faults 356 = .ok (.bipush 103, 2) := by decide +kernel
theorem dL_faults_358 : decode cL_faults 358 = .ok (.bipush 32, 2) := by decide +kernel
theorem dL_faults_360 : decode cL_faults 360 = .ok (.bipush 52, 2) := by decide +kernel
theorem dL_faults_362 : decode cL_faults 362 = .ok (.bipush 48, 2) := by decide +kernel
theorem dL_faults_364 : decode cL_faults 364 = .ok (.invokestatic 95, 3) := by decide +kernel
theorem dL_faults_367 : decode cL_faults 367 = .ok (.aload_n 0, 1) := by decide +kernel
theorem dL_faults_368 : decode cL_faults 368 = .ok (.bipush 59, 2) := by decide +kernel
theorem dL_faults_370 : decode cL_faults 370 = .ok (.invokevirtual 9, 3) := by decide +kernel
theorem dL_faults_373 : decode cL_faults 373 = .ok (.pop, 1) := by decide +kernel
theorem dL_faults_374 : decode cL_faults 374 = .ok (.aload_n 0, 1) := by decide +kernel
theorem dL_faults_375 : decode cL_faults 375 = .ok (.iconst 0, 1) := by decide +kernel
theorem dL_faults_376 : decode cL_faults 376 = .ok (.invokestatic 99, 3) := by decide +kernel
theorem dL_faults_379 : decode cL_faults 379 = .ok (.ifCond .ne 5, 3) := by decide +kernel
theorem dL_faults_382 : decode cL_faults 382 = .ok (.iconst 0, 1) := by decide +kernel
theorem dL_faults_383 : decode cL_faults 383 = .ok (.ireturn, 1) := by decide +kernel
theorem dL_faults_384 : decode cL_faults 384 = .ok (.aload_n 0, 1) := by decide +kernel
theorem dL_faults_385 : decode cL_faults 385 = .ok (.iconst 0, 1) := by decide +kernel
theorem dL_faults_386 : decode cL_faults 386 = .ok (.sipush 470, 3) := by decide +kernel
theorem dL_faults_389 : decode cL_faults 389 = .ok (.bipush 30, 2) := by decide +kernel
theorem dL_faults_391 : decode cL_faults 391 = .ok (.iconst 0, 1) := by decide +kernel
theorem dL_faults_392 : decode cL_faults 392 = .ok (.invokestatic 103, 3) := by decide +kernel
theorem dL_faults_395 : decode cL_faults 395 = .ok (.aload_n 0, 1) := by decide +kernel
theorem dL_faults_396 : decode cL_faults 396 = .ok (.bipush (-4), 2) := by decide +kernel
theorem dL_faults_398 : decode cL_faults 398 = .ok (.invokestatic 99, 3) := by decide +kernel
theorem dL_faults_401 : decode cL_faults 401 = .ok (.ifCond .ne 5, 3) := by decide +kernel
theorem dL_faults_404 : decode cL_faults 404 = .ok (.iconst 0, 1) := by decide +kernel
theorem dL_faults_405 : decode cL_faults 405 = .ok (.ireturn, 1) := by decide +kernel
theorem dL_faults_406 : decode cL_faults 406 = .ok (.aload_n 0, 1) := by decide +kernel
theorem dL_faults_407 : decode cL_faults 407 = .ok (.iconst 1, 1) := by decide +kernel
theorem dL_faults_408 : decode cL_faults 408 = .ok (.sipush 601, 3) := by decide +kernel
theorem dL_faults_411 : decode cL_faults 411 = .ok (.bipush 30, 2) := by decide +kernel
theorem dL_faults_413 : decode cL_faults 413 = .ok (.iconst 0, 1) := by decide +kernel
theorem dL_faults_414 : decode cL_faults 414 = .ok (.invokestatic 103, 3) := by decide +kernel
theorem dL_faults_417 : decode cL_faults 417 = .ok (.aload_n 0, 1) := by decide +kernel
theorem dL_faults_418 : decode cL_faults 418 = .ok (.bipush (-4), 2) := by decide +kernel
theorem dL_faults_420 : decode cL_faults 420 = .ok (.invokestatic 99, 3) := by decide +kernel
theorem dL_faults_423 : decode cL_faults 423 = .ok (.ifCond .ne 5, 3) := by decide +kernel
theorem dL_faults_426 : decode cL_faults 426 = .ok (.iconst 0, 1) := by decide +kernel
theorem dL_faults_427 : decode cL_faults 427 = .ok (.ireturn, 1) := by decide +kernel
theorem dL_faults_428 : decode cL_faults 428 = .ok (.aload_n 0, 1) := by decide +kernel
theorem dL_faults_429 : decode cL_faults 429 = .ok (.bipush 101, 2) := by decide +kernel
theorem dL_faults_431 : decode cL_faults 431 = .ok (.bipush 52, 2) := by decide +kernel
theorem dL_faults_433 : decode cL_faults 433 = .ok (.bipush 48, 2) := by decide +kernel
theorem dL_faults_435 : decode cL_faults 435 = .ok (.bipush 48, 2) := by decide +kernel
theorem dL_faults_437 : decode cL_faults 437 = .ok (.invokestatic 95, 3) := by decide +kernel
theorem dL_faults_440 : decode cL_faults 440 = .ok (.aload_n 0, 1) := by decide +kernel
theorem dL_faults_441 : decode cL_faults 441 = .ok (.bipush 59, 2) := by decide +kernel
theorem dL_faults_443 : decode cL_faults 443 = .ok (.invokevirtual 9, 3) := by decide +kernel
theorem dL_faults_446 : decode cL_faults 446 = .ok (.pop, 1) := by decide +kernel
theorem dL_faults_447 : decode cL_faults 447 = .ok (.aload_n 0, 1) := by decide +kernel
theorem dL_faults_448 : decode cL_faults 448 = .ok (.bipush (-4), 2) := by decide +kernel
theorem dL_faults_450 : decode cL_faults 450 = .ok (.invokestatic 99, 3) := by decide +kernel
theorem dL_faults_453 : decode cL_faults 453 = .ok (.ireturn, 1) := by decide +kernel
set_option maxRecDepth 20000 in
theorem ggL_refused_L_whole : GoodIn wsL_refused wsL_whole := goodIn_r _ [4, 5, 6, 7, 8, 9, 10, 11, 12, 13, 14, 15, 16, 17, 18, 19, 20, 21, 22, 23, 24, 25, 26, 27, 28, 29, 30, 31, 32, 33, 34, 35, 36, 37, 38, 39, 40, 41, 42, 43, 44, 45, 46, 47, 48, 49, 50, 51, 52, 53, 54, 55, 56, 57, 58, 59, 60, 61, 62, 63, 64, 65, 66, 67, 68, 69, 70, 71, 72, 73, 74, 75, 76, 77, 78, 79, 80, 81, 82, 83, 84, 85, 86, 87, 88, 89, 90, 91, 92, 93, 94, 95, 96, 97, 98, 99, 100, 101, 102, 103, 104, 105, 106, 107, 108, 109, 110, 111, 112, 113, 114, 115, 116, 117, 118, 119, 120, 121, 122, 123, 124, 125, 126, 127, 128, 129, 130, 131, 132, 133, 134, 135, 136, 137, 138, 139, 140, 141, 142, 366, 367, 368, 369, 370, 371, 372, 373, 374, 375, 376, 377, 378, 379, 380, 381, 382, 383, 384, 385, 386, 387, 388, 389, 390, 391, 392, 393, 394, 395, 396, 397, 398, 399, 400, 401, 402, 403, 404, 405, 406, 407, 408] rfl (by decide +kernel)
set_option maxRecDepth 20000 in
theorem gL_refused_L_whole : GoodIn wsL_refused (va_wsS RL 66 yL_whole wsL_whole) := goodIn_app (goodIn_of _ (by decide +kernel)) ggL_refused_L_whole
set_option maxRecDepth 20000 in
theorem ggL_refused_X7_count : GoodIn wsL_refused wsX7_count := goodIn_r _ [11, 12, 13, 14, 15, 16, 17, 18, 19, 20, 21, 22, 23, 24, 25, 26, 27, 28, 29, 30, 31, 32, 33, 366, 367, 368, 369, 370, 371, 372, 373, 374, 375, 376, 377, 378, 379, 380, 381, 382, 383, 384, 385, 386, 387, 388, 389, 390, 391, 392, 393, 394, 395, 396, 397, 398, 399, 400, 401, 402, 403, 404, 405] rfl (by decide +kernel)
set_option maxRecDepth 20000 in
theorem gL_refused_X7_count : GoodIn wsL_refused (wsV RL 43 RX7 yX7_count wsX7_count) := goodIn_app (goodIn_of _ (by decide +kernel)) ggL_refused_X7_count
set_option maxRecDepth 20000 in
theorem ggL_refused_X7_write : GoodIn wsL_refused wsX7_write := goodIn_r _ [146, 23, 24, 94, 95, 10, 96, 147, 148, 149, 150, 151, 152, 153, 154, 155, 156, 157, 366, 367, 368, 369, 370, 371, 372, 373, 374, 375, 390, 391, 392] rfl (by decide +kernel)
set_option maxRecDepth 20000 in
theorem gL_refused_X7_write : GoodIn wsL_refused (wsV RL 9 RX7 yX7_write wsX7_write) := goodIn_app (goodIn_of _ (by decide +kernel)) ggL_refused_X7_write
set_option maxRecDepth 20000 in
theorem ggL_refused_X7_command : GoodIn wsL_refused wsX7_command := goodIn_r _ [161, 18, 19, 47, 48, 10, 49, 162, 163, 164, 94, 95, 96, 165, 166, 167, 168, 169, 170, 171, 172, 22, 173, 174, 63, 175, 176, 177, 178, 119, 179, 180, 121, 122, 181, 182, 183, 184, 28, 185, 32, 30, 186, 187, 188, 189, 57, 190, 191, 84, 192, 60, 86, 88, 85, 193, 101, 69, 102, 70, 194, 195, 196, 197, 126, 198, 141, 128, 129, 130, 131, 132, 199, 138, 139, 140, 142, 200, 201, 202, 203, 204, 205, 206, 207, 208, 209, 210, 211, 212, 213, 214, 215, 216, 217, 218, 219, 220, 221, 222, 223, 224, 225, 226, 227, 228, 229, 230, 231, 366, 367, 368, 369, 370, 371, 372, 373, 374, 375, 383, 384, 385, 386, 387, 388, 389, 393, 394, 395, 396, 397, 398, 399, 400, 401, 402, 403, 404, 405, 406, 407, 408] rfl (by decide +kernel)
set_option maxRecDepth 20000 in
theorem gL_refused_X7_command : GoodIn wsL_refused (wsV RL 73 RX7 yX7_command wsX7_command) := goodIn_app (goodIn_of _ (by decide +kernel)) ggL_refused_X7_command
set_option maxRecDepth 20000 in
theorem ggL_refused_X7_shape : GoodIn wsL_refused wsX7_shape := goodIn_r _ [235, 18, 19, 47, 48, 10, 49, 162, 163, 164, 94, 95, 96, 165, 166, 167, 168, 169, 170, 171, 172, 22, 173, 174, 63, 175, 176, 177, 178, 119, 179, 180, 121, 122, 181, 182, 183, 184, 28, 185, 32, 30, 186, 187, 188, 189, 57, 190, 191, 84, 192, 60, 86, 88, 85, 193, 101, 69, 102, 70, 194, 195, 196, 197, 126, 198, 141, 128, 129, 130, 131, 132, 199, 138, 139, 140, 142, 200, 201, 202, 203, 236, 237, 238, 239, 208, 209, 210, 211, 212, 213, 214, 215, 240, 241, 242, 243, 78, 79, 220, 221, 222, 223, 224, 225, 226, 227, 228, 229, 230, 231, 366, 367, 368, 369, 370, 371, 372, 373, 374, 375, 383, 384, 385, 386, 387, 388, 389, 393, 394, 395, 396, 397, 398, 399, 400, 401, 402, 403, 404, 405, 406, 407, 408] rfl (by decide +kernel)
set_option maxRecDepth 20000 in
theorem gL_refused_X7_shape : GoodIn wsL_refused (wsV RL 76 RX7 yX7_shape wsX7_shape) := goodIn_app (goodIn_of _ (by decide +kernel)) ggL_refused_X7_shape
set_option maxRecDepth 20000 in
theorem ggL_refused_X7_target : GoodIn wsL_refused wsX7_target := goodIn_r _ [247, 18, 19, 46, 47, 48, 10, 49, 248, 249, 250, 94, 95, 96, 251, 252, 253, 28, 254, 32, 255, 30, 208, 209, 210, 211, 212, 213, 214, 215, 186, 224, 225, 226, 227, 165, 166, 167, 168, 169, 170, 171, 172, 22, 173, 174, 63, 175, 176, 177, 178, 119, 179, 180, 121, 122, 181, 182, 183, 184, 185, 187, 188, 189, 57, 190, 191, 84, 192, 60, 86, 88, 85, 193, 101, 69, 102, 70, 194, 195, 196, 197, 126, 198, 141, 128, 129, 130, 131, 132, 199, 138, 139, 140, 142, 200, 201, 202, 203, 50, 51, 52, 53, 256, 257, 258, 259, 366, 367, 368, 369, 370, 371, 372, 373, 374, 375, 383, 384, 385, 386, 393, 394, 395, 396, 397, 398, 399, 400, 401, 402, 403, 404, 405, 387, 388, 389, 406, 407, 408] rfl (by decide +kernel)
set_option maxRecDepth 20000 in
theorem gL_refused_X7_target : GoodIn wsL_refused (wsV RL 79 RX7 yX7_target wsX7_target) := goodIn_app (goodIn_of _ (by decide +kernel)) ggL_refused_X7_target
set_option maxRecDepth 20000 in
theorem ggL_refused_X7_load : GoodIn wsL_refused wsX7_load := goodIn_r _ [263, 18, 19, 42, 47, 48, 10, 49, 94, 95, 96, 50, 51, 52, 28, 53, 32, 30, 165, 166, 167, 168, 169, 170, 171, 172, 22, 173, 174, 63, 175, 176, 177, 178, 119, 179, 180, 121, 122, 181, 182, 183, 184, 185, 186, 187, 188, 189, 57, 190, 191, 84, 192, 60, 86, 88, 85, 193, 101, 69, 102, 70, 194, 195, 196, 197, 126, 198, 141, 128, 129, 130, 131, 132, 199, 138, 139, 140, 142, 200, 201, 202, 203, 366, 367, 368, 369, 370, 371, 372, 373, 374, 375, 383, 384, 385, 386, 393, 394, 395, 396, 397, 398, 399, 400, 401, 402, 403, 404, 405, 387, 388, 389, 406, 407, 408] rfl (by decide +kernel)
set_option maxRecDepth 20000 in
theorem gL_refused_X7_load : GoodIn wsL_refused (wsV RL 82 RX7 yX7_load wsX7_load) := goodIn_app (goodIn_of _ (by decide +kernel)) ggL_refused_X7_load
set_option maxRecDepth 20000 in
theorem ggL_refused_X7_crane : GoodIn wsL_refused wsX7_crane := goodIn_r _ [37, 18, 19, 38, 39, 40, 41, 42, 43, 44, 45, 46, 12, 15, 47, 48, 10, 49, 50, 51, 52, 28, 53, 32, 30, 54, 55, 56, 57, 58, 59, 60, 61, 62, 63, 64, 65, 66, 67, 68, 69, 70, 71, 72, 73, 74, 75, 76, 77, 78, 79, 80, 81, 82, 83, 84, 85, 86, 87, 88, 89, 366, 367, 368, 369, 370, 371, 372, 373, 374, 375, 383, 384, 385, 386, 393, 394, 395, 396, 397, 398, 399, 400, 401, 402, 403, 404, 405, 376, 377, 378, 379, 380, 381, 382, 387, 388, 389] rfl (by decide +kernel)
set_option maxRecDepth 20000 in
theorem gL_refused_X7_crane : GoodIn wsL_refused (wsV RL 46 RX7 yX7_crane wsX7_crane) := goodIn_app (goodIn_of _ (by decide +kernel)) ggL_refused_X7_crane
set_option maxRecDepth 20000 in
theorem ggL_refused_X7_couple : GoodIn wsL_refused wsX7_couple := goodIn_r _ [267, 18, 19, 20, 94, 95, 10, 96, 165, 166, 167, 168, 169, 170, 171, 172, 22, 173, 174, 63, 175, 176, 177, 178, 119, 179, 180, 121, 122, 181, 182, 183, 184, 28, 185, 32, 30, 186, 187, 188, 189, 57, 190, 191, 84, 192, 60, 86, 88, 85, 193, 101, 69, 102, 70, 194, 195, 196, 197, 126, 198, 141, 128, 129, 130, 131, 132, 199, 138, 139, 140, 142, 200, 201, 202, 203, 366, 367, 368, 369, 370, 371, 372, 373, 374, 375, 383, 384, 385, 386, 387, 388, 389, 393, 394, 395, 396, 397, 398, 399, 400, 401, 402, 403, 404, 405, 406, 407, 408] rfl (by decide +kernel)
set_option maxRecDepth 20000 in
theorem gL_refused_X7_couple : GoodIn wsL_refused (wsV RL 85 RX7 yX7_couple wsX7_couple) := goodIn_app (goodIn_of _ (by decide +kernel)) ggL_refused_X7_couple
set_option maxRecDepth 20000 in
theorem ggL_refused_X7_tick : GoodIn wsL_refused wsX7_tick := goodIn_r _ [271, 18, 21, 12, 94, 95, 10, 96, 165, 166, 167, 168, 169, 170, 171, 172, 22, 173, 174, 63, 175, 176, 177, 178, 119, 179, 180, 121, 122, 181, 182, 183, 184, 28, 185, 32, 30, 186, 187, 188, 189, 57, 190, 191, 84, 192, 60, 86, 88, 85, 193, 101, 69, 102, 70, 194, 195, 196, 197, 126, 198, 141, 128, 129, 130, 131, 132, 199, 138, 139, 140, 142, 200, 201, 202, 203, 272, 273, 274, 275, 276, 277, 278, 279, 280, 281, 31, 282, 283, 284, 285, 286, 26, 27, 29, 33, 287, 288, 289, 290, 291, 292, 293, 294, 295, 296, 297, 298, 299, 300, 55, 56, 58, 59, 61, 62, 64, 301, 302, 303, 72, 73, 74, 75, 76, 304, 305, 306, 307, 87, 308, 309, 310, 311, 312, 313, 314, 315, 316, 317, 318, 319, 320, 321, 322, 323, 324, 325, 326, 327, 328, 329, 366, 367, 368, 369, 370, 371, 372, 373, 374, 375, 383, 384, 385, 386, 387, 388, 389, 393, 394, 395, 396, 397, 398, 399, 400, 401, 402, 403, 404, 405, 406, 407, 408, 376, 377, 378, 379, 380, 381, 382] rfl (by decide +kernel)
set_option maxRecDepth 20000 in
theorem gL_refused_X7_tick : GoodIn wsL_refused (wsV RL 70 RX7 yX7_tick wsX7_tick) := goodIn_app (goodIn_of _ (by decide +kernel)) ggL_refused_X7_tick
set_option maxRecDepth 20000 in
theorem ggL_refused_X7_stepOf : GoodIn wsL_refused wsX7_stepOf := goodIn_r _ [93, 18, 19, 40, 47, 48, 10, 49, 94, 95, 96, 50, 51, 52, 28, 53, 32, 30, 65, 66, 67, 57, 68, 69, 70, 97, 98, 99, 100, 101, 102, 103, 104, 105, 106, 107, 108, 109, 110, 366, 367, 368, 369, 370, 371, 372, 373, 374, 375, 383, 384, 385, 386, 387, 388, 389, 393, 394, 395, 396, 397, 398, 399, 400, 401, 402, 403, 404, 405] rfl (by decide +kernel)
set_option maxRecDepth 20000 in
theorem gL_refused_X7_stepOf : GoodIn wsL_refused (wsV RL 49 RX7 yX7_stepOf wsX7_stepOf) := goodIn_app (goodIn_of _ (by decide +kernel)) ggL_refused_X7_stepOf
set_option maxRecDepth 20000 in
theorem ggL_refused_X7_stop : GoodIn wsL_refused wsX7_stop := goodIn_r _ [333, 12, 15, 162, 163, 10, 164, 94, 95, 96, 71, 72, 73, 74, 75, 63, 76, 366, 367, 368, 369, 370, 371, 372, 373, 374, 375, 376, 377, 378, 379, 380, 381, 382] rfl (by decide +kernel)
set_option maxRecDepth 20000 in
theorem gL_refused_X7_stop : GoodIn wsL_refused (wsV RL 60 RX7 yX7_stop wsX7_stop) := goodIn_app (goodIn_of _ (by decide +kernel)) ggL_refused_X7_stop
set_option maxRecDepth 20000 in
theorem ggL_refused_X7_half : GoodIn wsL_refused wsX7_half := goodIn_r _ [337, 248, 249, 10, 250, 94, 95, 96, 77, 78, 79] rfl (by decide +kernel)
set_option maxRecDepth 20000 in
theorem gL_refused_X7_half : GoodIn wsL_refused (wsV RL 63 RX7 yX7_half wsX7_half) := goodIn_app (goodIn_of _ (by decide +kernel)) ggL_refused_X7_half
set_option maxRecDepth 20000 in
theorem ggL_refused_X7_spot : GoodIn wsL_refused wsX7_spot := goodIn_r _ [114, 18, 115, 47, 48, 10, 49, 94, 95, 96, 116, 117, 118, 119, 120, 121, 122, 123, 124, 125, 126, 127, 128, 129, 130, 131, 132, 133, 134, 135, 136, 137, 138, 139, 140, 141, 142, 366, 367, 368, 369, 370, 371, 372, 373, 374, 375, 406, 407, 408, 383, 384, 385, 386] rfl (by decide +kernel)
set_option maxRecDepth 20000 in
theorem gL_refused_X7_spot : GoodIn wsL_refused (wsV RL 53 RX7 yX7_spot wsX7_spot) := goodIn_app (goodIn_of _ (by decide +kernel)) ggL_refused_X7_spot
set_option maxRecDepth 20000 in
theorem ggL_refused_X7_been : GoodIn wsL_refused wsX7_been := goodIn_r _ [341, 18, 47, 48, 10, 49, 94, 95, 96, 116, 117, 118, 119, 120, 121, 122, 342, 343, 344, 126, 345, 322, 323, 324, 325, 326, 327, 328, 329, 141, 128, 129, 130, 131, 132, 199, 138, 139, 140, 142, 366, 367, 368, 369, 370, 371, 372, 373, 374, 375, 383, 384, 385, 386, 406, 407, 408] rfl (by decide +kernel)
set_option maxRecDepth 20000 in
theorem gL_refused_X7_been : GoodIn wsL_refused (wsV RL 109 RX7 yX7_been wsX7_been) := goodIn_app (goodIn_of _ (by decide +kernel)) ggL_refused_X7_been
set_option maxRecDepth 20000 in
theorem ggL_refused_X7_ahead : GoodIn wsL_refused wsX7_ahead := goodIn_r _ [349, 350, 18, 19, 12, 43, 74, 75, 63, 76, 303, 62, 64, 351, 38, 39, 40, 41, 94, 95, 10, 96, 47, 48, 49, 352, 183, 184, 28, 185, 32, 30, 186, 187, 188, 189, 57, 190, 191, 84, 192, 60, 86, 88, 85, 193, 101, 69, 102, 70, 194, 50, 51, 52, 53, 353, 279, 280, 281, 31, 282, 283, 284, 285, 286, 26, 27, 29, 33, 287, 288, 289, 290, 291, 292, 293, 294, 295, 296, 297, 298, 299, 300, 55, 56, 58, 59, 61, 301, 302, 173, 174, 175, 72, 73, 304, 305, 306, 307, 87, 308, 309, 310, 311, 312, 313, 314, 315, 366, 367, 368, 369, 370, 371, 372, 373, 374, 375, 383, 384, 385, 386, 393, 394, 395, 396, 397, 398, 399, 400, 401, 402, 403, 404, 405, 387, 388, 389, 376, 377, 378, 379, 380, 381, 382] rfl (by decide +kernel)
set_option maxRecDepth 20000 in
theorem gL_refused_X7_ahead : GoodIn wsL_refused (wsV RL 112 RX7 yX7_ahead wsX7_ahead) := goodIn_app (goodIn_of _ (by decide +kernel)) ggL_refused_X7_ahead
set_option maxRecDepth 20000 in
theorem ggL_refused_X7_quiet : GoodIn wsL_refused wsX7_quiet := goodIn_r _ [357, 350, 18, 19, 12, 47, 48, 10, 49, 352, 183, 184, 28, 185, 32, 30, 186, 187, 188, 189, 57, 190, 191, 84, 192, 60, 86, 88, 85, 193, 101, 69, 102, 70, 194, 204, 205, 206, 207, 208, 209, 210, 211, 212, 213, 214, 215, 216, 217, 218, 219, 220, 221, 222, 223, 224, 225, 226, 227, 228, 229, 230, 231, 50, 51, 52, 53, 80, 81, 82, 83, 87, 75, 63, 76, 89, 66, 67, 68, 353, 279, 280, 281, 31, 282, 283, 284, 285, 286, 26, 27, 29, 33, 287, 288, 289, 290, 291, 292, 293, 294, 295, 296, 297, 298, 299, 300, 55, 56, 58, 59, 61, 62, 64, 301, 302, 173, 174, 175, 303, 72, 73, 74, 304, 305, 306, 307, 308, 309, 310, 311, 312, 313, 314, 315, 366, 367, 368, 369, 370, 371, 372, 373, 374, 375, 383, 384, 385, 386, 387, 388, 389, 393, 394, 395, 396, 397, 398, 399, 400, 401, 402, 403, 404, 405, 376, 377, 378, 379, 380, 381, 382] rfl (by decide +kernel)
set_option maxRecDepth 20000 in
theorem gL_refused_X7_quiet : GoodIn wsL_refused (wsV RL 115 RX7 yX7_quiet wsX7_quiet) := goodIn_app (goodIn_of _ (by decide +kernel)) ggL_refused_X7_quiet
set_option maxRecDepth 20000 in
theorem ggL_refused_X7_best : GoodIn wsL_refused wsX7_best := goodIn_r _ [361, 47, 48, 10, 49, 162, 163, 164, 94, 95, 96, 362, 363, 364, 365, 350, 18, 19, 12, 43, 74, 75, 63, 76, 303, 62, 64, 352, 183, 184, 28, 185, 32, 30, 186, 187, 188, 189, 57, 190, 191, 84, 192, 60, 86, 88, 85, 193, 101, 69, 102, 70, 194, 236, 237, 238, 239, 208, 209, 210, 211, 212, 213, 214, 215, 240, 241, 242, 243, 78, 79, 220, 221, 222, 223, 224, 225, 226, 227, 228, 229, 230, 231, 50, 51, 52, 53, 353, 279, 280, 281, 31, 282, 283, 284, 285, 286, 26, 27, 29, 33, 287, 288, 289, 290, 291, 292, 293, 294, 295, 296, 297, 298, 299, 300, 55, 56, 58, 59, 61, 301, 302, 173, 174, 175, 72, 73, 304, 305, 306, 307, 87, 308, 309, 310, 311, 312, 313, 314, 315, 366, 367, 368, 369, 370, 371, 372, 373, 374, 375, 383, 384, 385, 386, 393, 394, 395, 396, 397, 398, 399, 400, 401, 402, 403, 404, 405, 387, 388, 389, 376, 377, 378, 379, 380, 381, 382] rfl (by decide +kernel)
set_option maxRecDepth 20000 in
theorem gL_refused_X7_best : GoodIn wsL_refused (wsV RL 118 RX7 yX7_best wsX7_best) := goodIn_app (goodIn_of _ (by decide +kernel)) ggL_refused_X7_best
theorem dL_refused_0 : decode cL_refused 0 = .ok (.aload_n 0, 1) := by decide +kernel
theorem dL_refused_1 : decode cL_refused 1 = .ok (.invokestatic 66, 3) := by decide +kernel
theorem dL_refused_4 : decode cL_refused 4 = .ok (.lstore_n 1, 1) := by decide +kernel
theorem dL_refused_5 : decode cL_refused 5 = .ok (.aload_n 0, 1) := by decide +kernel
theorem dL_refused_6 : decode cL_refused 6 = .ok (.bipush 7, 2) := by decide +kernel
theorem dL_refused_8 : decode cL_refused 8 = .ok (.invokevirtual 43, 3) := by decide +kernel
theorem dL_refused_11 : decode cL_refused 11 = .ok (.istore_n 3, 1) := by decide +kernel
theorem dL_refused_12 : decode cL_refused 12 = .ok (.aload_n 0, 1) := by decide +kernel
theorem dL_refused_13 : decode cL_refused 13 = .ok (.bipush 31, 2) := by decide +kernel
theorem dL_refused_15 : decode cL_refused 15 = .ok (.invokevirtual 9, 3) := by decide +kernel
theorem dL_refused_18 : decode cL_refused 18 = .ok (.iconst (-1), 1) := by decide +kernel
theorem dL_refused_19 : decode cL_refused 19 = .ok (.if_icmp .ne 222, 3) := by decide +kernel
theorem dL_refused_22 : decode cL_refused 22 = .ok (.aload_n 0, 1) := by decide +kernel
theorem dL_refused_23 : decode cL_refused 23 = .ok (.bipush 127, 2) := by decide +kernel
theorem dL_refused_25 : decode cL_refused 25 = .ok (.invokevirtual 9, 3) := by decide +kernel
theorem dL_refused_28 : decode cL_refused 28 = .ok (.iconst (-1), 1) := by decide +kernel
theorem dL_refused_29 : decode cL_refused 29 = .ok (.if_icmp .ne 212, 3) := by decide +kernel
theorem dL_refused_32 : decode cL_refused 32 = .ok (.aload_n 0, 1) := by decide +kernel
theorem dL_refused_33 : decode cL_refused 33 = .ok (.iconst 2, 1) := by decide +kernel
theorem dL_refused_34 : decode cL_refused 34 = .ok (.iconst 0, 1) := by decide +kernel
theorem dL_refused_35 : decode cL_refused 35 = .ok (.invokevirtual 73, 3) := by decide +kernel
theorem dL_refused_38 : decode cL_refused 38 = .ok (.iconst (-1), 1) := by decide +kernel
theorem dL_refused_39 : decode cL_refused 39 = .ok (.if_icmp .ne 202, 3) := by decide +kernel
theorem dL_refused_42 : decode cL_refused 42 = .ok (.aload_n 0, 1) := by decide +kernel
theorem dL_refused_43 : decode cL_refused 43 = .ok (.iconst 0, 1) := by decide +kernel
theorem dL_refused_44 : decode cL_refused 44 = .ok (.bipush 41, 2) := by decide +kernel
theorem dL_refused_46 : decode cL_refused 46 = .ok (.invokevirtual 73, 3) := by decide +kernel
theorem dL_refused_49 : decode cL_refused 49 = .ok (.iconst (-1), 1) := by decide +kernel
theorem dL_refused_50 : decode cL_refused 50 = .ok (.if_icmp .ne 191, 3) := by decide +kernel
theorem dL_refused_53 : decode cL_refused 53 = .ok (.aload_n 0, 1) := by decide +kernel
theorem dL_refused_54 : decode cL_refused 54 = .ok (.iconst (-1), 1) := by decide +kernel
theorem dL_refused_55 : decode cL_refused 55 = .ok (.iconst 0, 1) := by decide +kernel
theorem dL_refused_56 : decode cL_refused 56 = .ok (.iconst 0, 1) := by decide +kernel
theorem dL_refused_57 : decode cL_refused 57 = .ok (.invokevirtual 76, 3) := by decide +kernel
theorem dL_refused_60 : decode cL_refused 60 = .ok (.iconst (-1), 1) := by decide +kernel
theorem dL_refused_61 : decode cL_refused 61 = .ok (.if_icmp .ne 180, 3) := by decide +kernel
theorem dL_refused_64 : decode cL_refused 64 = .ok (.aload_n 0, 1) := by decide +kernel
theorem dL_refused_65 : decode cL_refused 65 = .ok (.iconst 0, 1) := by decide +kernel
theorem dL_refused_66 : decode cL_refused 66 = .ok (.bipush (-41), 2) := by decide +kernel
theorem dL_refused_68 : decode cL_refused 68 = .ok (.iconst 0, 1) := by decide +kernel
theorem dL_refused_69 : decode cL_refused 69 = .ok (.invokevirtual 76, 3) := by decide +kernel
theorem dL_refused_72 : decode cL_refused 72 = .ok (.iconst (-1), 1) := by decide +kernel
theorem dL_refused_73 : decode cL_refused 73 = .ok (.if_icmp .ne 168, 3) := by decide +kernel
theorem dL_refused_76 : decode cL_refused 76 = .ok (.aload_n 0, 1) := by decide +kernel
theorem dL_refused_77 : decode cL_refused 77 = .ok (.iconst 0, 1) := by decide +kernel
theorem dL_refused_78 : decode cL_refused 78 = .ok (.iconst 0, 1) := by decide +kernel
theorem dL_refused_79 : decode cL_refused 79 = .ok (.bipush 21, 2) := by decide +kernel
theorem dL_refused_81 : decode cL_refused 81 = .ok (.invokevirtual 76, 3) := by decide +kernel
theorem dL_refused_84 : decode cL_refused 84 = .ok (.iconst (-1), 1) := by decide +kernel
theorem dL_refused_85 : decode cL_refused 85 = .ok (.if_icmp .ne 156, 3) := by decide +kernel
theorem dL_refused_88 : decode cL_refused 88 = .ok (.aload_n 0, 1) := by decide +kernel
theorem dL_refused_89 : decode cL_refused 89 = .ok (.iconst 0, 1) := by decide +kernel
theorem dL_refused_90 : decode cL_refused 90 = .ok (.iconst 0, 1) := by decide +kernel
theorem dL_refused_91 : decode cL_refused 91 = .ok (.bipush (-2), 2) := by decide +kernel
theorem dL_refused_93 : decode cL_refused 93 = .ok (.invokevirtual 76, 3) := by decide +kernel
theorem dL_refused_96 : decode cL_refused 96 = .ok (.iconst (-1), 1) := by decide +kernel
theorem dL_refused_97 : decode cL_refused 97 = .ok (.if_icmp .ne 144, 3) := by decide +kernel
theorem dL_refused_100 : decode cL_refused 100 = .ok (.aload_n 0, 1) := by decide +kernel
theorem dL_refused_101 : decode cL_refused 101 = .ok (.iconst 0, 1) := by decide +kernel
theorem dL_refused_102 : decode cL_refused 102 = .ok (.bipush 9, 2) := by decide +kernel
theorem dL_refused_104 : decode cL_refused 104 = .ok (.invokevirtual 79, 3) := by decide +kernel
theorem dL_refused_107 : decode cL_refused 107 = .ok (.iconst (-1), 1) := by decide +kernel
theorem dL_refused_108 : decode cL_refused 108 = .ok (.if_icmp .ne 133, 3) := by decide +kernel
theorem dL_refused_111 : decode cL_refused 111 = .ok (.aload_n 0, 1) := by decide +kernel
theorem dL_refused_112 : decode cL_refused 112 = .ok (.iconst 0, 1) := by decide +kernel
theorem dL_refused_113 : decode cL_refused 113 = .ok (.bipush 61, 2) := by decide +kernel
theorem dL_refused_115 : decode cL_refused 115 = .ok (.invokevirtual 79, 3) := by decide +kernel
theorem dL_refused_118 : decode cL_refused 118 = .ok (.iconst (-1), 1) := by decide +kernel
theorem dL_refused_119 : decode cL_refused 119 = .ok (.if_icmp .ne 122, 3) := by decide +kernel
theorem dL_refused_122 : decode cL_refused 122 = .ok (.aload_n 0, 1) := by decide +kernel
theorem dL_refused_123 : decode cL_refused 123 = .ok (.iconst 2, 1) := by decide +kernel
theorem dL_refused_124 : decode cL_refused 124 = .ok (.bipush 30, 2) := by decide +kernel
theorem dL_refused_126 : decode cL_refused 126 = .ok (.invokevirtual 79, 3) := by decide +kernel
theorem dL_refused_129 : decode cL_refused 129 = .ok (.iconst (-1), 1) := by decide +kernel
theorem dL_refused_130 : decode cL_refused 130 = .ok (.if_icmp .ne 111, 3) := by decide +kernel
theorem dL_refused_133 : decode cL_refused 133 = .ok (.aload_n 0, 1) := by decide +kernel
theorem dL_refused_134 : decode cL_refused 134 = .ok (.iconst 0, 1) := by decide +kernel
theorem dL_refused_135 : decode cL_refused 135 = .ok (.bipush 100, 2) := by decide +kernel
theorem dL_refused_137 : decode cL_refused 137 = .ok (.invokevirtual 82, 3) := by decide +kernel
theorem dL_refused_140 : decode cL_refused 140 = .ok (.iconst (-1), 1) := by decide +kernel
theorem dL_refused_141 : decode cL_refused 141 = .ok (.if_icmp .ne 100, 3) := by decide +kernel
theorem dL_refused_144 : decode cL_refused 144 = .ok (.aload_n 0, 1) := by decide +kernel
theorem dL_refused_145 : decode cL_refused 145 = .ok (.iconst 0, 1) := by decide +kernel
theorem dL_refused_146 : decode cL_refused 146 = .ok (.iconst (-1), 1) := by decide +kernel
theorem dL_refused_147 : decode cL_refused 147 = .ok (.invokevirtual 82, 3) := by decide +kernel
theorem dL_refused_150 : decode cL_refused 150 = .ok (.iconst (-1), 1) := by decide +kernel
theorem dL_refused_151 : decode cL_refused 151 = .ok (.if_icmp .ne 90, 3) := by decide +kernel
theorem dL_refused_154 : decode cL_refused 154 = .ok (.aload_n 0, 1) := by decide +kernel
theorem dL_refused_155 : decode cL_refused 155 = .ok (.iconst 0, 1) := by decide +kernel
theorem dL_refused_156 : decode cL_refused 156 = .ok (.aload_n 0, 1) := by decide +kernel
theorem dL_refused_157 : decode cL_refused 157 = .ok (.iconst 0, 1) := by decide +kernel
theorem dL_refused_158 : decode cL_refused 158 = .ok (.iconst 3, 1) := by decide +kernel
theorem dL_refused_159 : decode cL_refused 159 = .ok (.invokevirtual 46, 3) := by decide +kernel
theorem dL_refused_162 : decode cL_refused 162 = .ok (.invokevirtual 82, 3) := by decide +kernel
theorem dL_refused_165 : decode cL_refused 165 = .ok (.bipush (-2), 2) := by decide +kernel
theorem dL_refused_167 : decode cL_refused 167 = .ok (.if_icmp .ne 74, 3) := by decide +kernel
theorem dL_refused_170 : decode cL_refused 170 = .ok (.aload_n 0, 1) := by decide +kernel
theorem dL_refused_171 : decode cL_refused 171 = .ok (.bipush 21, 2) := by decide +kernel
theorem dL_refused_173 : decode cL_refused 173 = .ok (.invokevirtual 85, 3) := by decide +kernel
theorem dL_refused_176 : decode cL_refused 176 = .ok (.iconst (-1), 1) := by decide +kernel
theorem dL_refused_177 : decode cL_refused 177 = .ok (.if_icmp .ne 64, 3) := by decide +kernel
theorem dL_refused_180 : decode cL_refused 180 = .ok (.aload_n 0, 1) := by decide +kernel
theorem dL_refused_181 : decode cL_refused 181 = .ok (.bipush (-2), 2) := by decide +kernel
theorem dL_refused_183 : decode cL_refused 183 = .ok (.invokevirtual 85, 3) := by decide +kernel
theorem dL_refused_186 : decode cL_refused 186 = .ok (.iconst (-1), 1) := by decide +kernel
theorem dL_refused_187 : decode cL_refused 187 = .ok (.if_icmp .ne 54, 3) := by decide +kernel
theorem dL_refused_190 : decode cL_refused 190 = .ok (.aload_n 0, 1) := by decide +kernel
theorem dL_refused_191 : decode cL_refused 191 = .ok (.aload_n 0, 1) := by decide +kernel
theorem dL_refused_192 : decode cL_refused 192 = .ok (.iconst 5, 1) := by decide +kernel
theorem dL_refused_193 : decode cL_refused 193 = .ok (.invokevirtual 43, 3) := by decide +kernel
theorem dL_refused_196 : decode cL_refused 196 = .ok (.bipush (-4), 2) := by decide +kernel
theorem dL_refused_198 : decode cL_refused 198 = .ok (.if_icmp .ne 7, 3) := by decide +kernel
theorem dL_refused_201 : decode cL_refused 201 = .ok (.iconst (-1), 1) := by decide +kernel
theorem dL_refused_202 : decode cL_refused 202 = .ok (.goto 8, 3) := by decide +kernel
theorem dL_refused_205 : decode cL_refused 205 = .ok (.aload_n 0, 1) := by decide +kernel
theorem dL_refused_206 : decode cL_refused 206 = .ok (.iconst 5, 1) := by decide +kernel
theorem dL_refused_207 : decode cL_refused 207 = .ok (.invokevirtual 43, 3) := by decide +kernel
theorem dL_refused_210 : decode cL_refused 210 = .ok (.invokevirtual 85, 3) := by decide +kernel
theorem dL_refused_213 : decode cL_refused 213 = .ok (.bipush (-2), 2) := by decide +kernel
theorem dL_refused_215 : decode cL_refused 215 = .ok (.if_icmp .ne 26, 3) := by decide +kernel
theorem dL_refused_218 : decode cL_refused 218 = .ok (.aload_n 0, 1) := by decide +kernel
theorem dL_refused_219 : decode cL_refused 219 = .ok (.iconst 0, 1) := by decide +kernel
theorem dL_refused_220 : decode cL_refused 220 = .ok (.invokevirtual 70, 3) := by decide +kernel
theorem dL_refused_223 : decode cL_refused 223 = .ok (.iconst (-1), 1) := by decide +kernel
theorem dL_refused_224 : decode cL_refused 224 = .ok (.if_icmp .ne 17, 3) := by decide +kernel
theorem dL_refused_227 : decode cL_refused 227 = .ok (.aload_n 0, 1) := by decide +kernel
theorem dL_refused_228 : decode cL_refused 228 = .ok (.bipush 61, 2) := by decide +kernel
theorem dL_refused_230 : decode cL_refused 230 = .ok (.invokevirtual 70, 3) := by decide +kernel
theorem dL_refused_233 : decode cL_refused 233 = .ok (.iconst (-1), 1) := by decide +kernel
theorem dL_refused_234 : decode cL_refused 234 = .ok (.if_icmp .ne 7, 3) := by decide +kernel
theorem dL_refused_237 : decode cL_refused 237 = .ok (.iconst 1, 1) := by decide +kernel
theorem dL_refused_238 : decode cL_refused 238 = .ok (.goto 4, 3) := by decide +kernel
theorem dL_refused_241 : decode cL_refused 241 = .ok (.iconst 0, 1) := by decide +kernel
theorem dL_refused_242 : decode cL_refused 242 = .ok (.istore 4, 2) := by decide +kernel
theorem dL_refused_244 : decode cL_refused 244 = .ok (.iload 4, 2) := by decide +kernel
theorem dL_refused_246 : decode cL_refused 246 = .ok (.ifCond .eq 179, 3) := by decide +kernel
theorem dL_refused_249 : decode cL_refused 249 = .ok (.aload_n 0, 1) := by decide +kernel
theorem dL_refused_250 : decode cL_refused 250 = .ok (.iconst 2, 1) := by decide +kernel
theorem dL_refused_251 : decode cL_refused 251 = .ok (.iconst 0, 1) := by decide +kernel
theorem dL_refused_252 : decode cL_refused 252 = .ok (.invokevirtual 46, 3) := by decide +kernel
theorem dL_refused_255 : decode cL_refused 255 = .ok (.iconst (-1), 1) := by decide +kernel
theorem dL_refused_256 : decode cL_refused 256 = .ok (.if_icmp .ne 169, 3) := by decide +kernel
theorem dL_refused_259 : decode cL_refused 259 = .ok (.aload_n 0, 1) := by decide +kernel
theorem dL_refused_260 : decode cL_refused 260 = .ok (.iconst 0, 1) := by decide +kernel
theorem dL_refused_261 : decode cL_refused 261 = .ok (.bipush 13, 2) := by decide +kernel
theorem dL_refused_263 : decode cL_refused 263 = .ok (.invokevirtual 46, 3) := by decide +kernel
theorem dL_refused_266 : decode cL_refused 266 = .ok (.iconst (-1), 1) := by decide +kernel
theorem dL_refused_267 : decode cL_refused 267 = .ok (.if_icmp .ne 158, 3) := by decide +kernel
theorem dL_refused_270 : decode cL_refused 270 = .ok (.aload_n 0, 1) := by decide +kernel
theorem dL_refused_271 : decode cL_refused 271 = .ok (.iconst 0, 1) := by decide +kernel
theorem dL_refused_272 : decode cL_refused 272 = .ok (.iconst (-1), 1) := by decide +kernel
theorem dL_refused_273 : decode cL_refused 273 = .ok (.iconst 0, 1) := by decide +kernel
theorem dL_refused_274 : decode cL_refused 274 = .ok (.invokevirtual 49, 3) := by decide +kernel
theorem dL_refused_277 : decode cL_refused 277 = .ok (.iconst (-1), 1) := by decide +kernel
theorem dL_refused_278 : decode cL_refused 278 = .ok (.if_icmp .ne 147, 3) := by decide +kernel
theorem dL_refused_281 : decode cL_refused 281 = .ok (.aload_n 0, 1) := by decide +kernel
theorem dL_refused_282 : decode cL_refused 282 = .ok (.iconst 0, 1) := by decide +kernel
theorem dL_refused_283 : decode cL_refused 283 = .ok (.iconst 0, 1) := by decide +kernel
theorem dL_refused_284 : decode cL_refused 284 = .ok (.iconst 2, 1) := by decide +kernel
theorem dL_refused_285 : decode cL_refused 285 = .ok (.invokevirtual 49, 3) := by decide +kernel
theorem dL_refused_288 : decode cL_refused 288 = .ok (.iconst (-1), 1) := by decide +kernel
theorem dL_refused_289 : decode cL_refused 289 = .ok (.if_icmp .ne 136, 3) := by decide +kernel
theorem dL_refused_292 : decode cL_refused 292 = .ok (.aload_n 0, 1) := by decide +kernel
theorem dL_refused_293 : decode cL_refused 293 = .ok (.iconst 0, 1) := by decide +kernel
theorem dL_refused_294 : decode cL_refused 294 = .ok (.iconst 2, 1) := by decide +kernel
theorem dL_refused_295 : decode cL_refused 295 = .ok (.iconst 0, 1) := by decide +kernel
theorem dL_refused_296 : decode cL_refused 296 = .ok (.invokevirtual 49, 3) := by decide +kernel
theorem dL_refused_299 : decode cL_refused 299 = .ok (.bipush (-4), 2) := by decide +kernel
theorem dL_refused_301 : decode cL_refused 301 = .ok (.if_icmp .ne 124, 3) := by decide +kernel
theorem dL_refused_304 : decode cL_refused 304 = .ok (.aload_n 0, 1) := by decide +kernel
theorem dL_refused_305 : decode cL_refused 305 = .ok (.bipush 41, 2) := by decide +kernel
theorem dL_refused_307 : decode cL_refused 307 = .ok (.invokevirtual 60, 3) := by decide +kernel
theorem dL_refused_310 : decode cL_refused 310 = .ok (.iconst (-1), 1) := by decide +kernel
theorem dL_refused_311 : decode cL_refused 311 = .ok (.if_icmp .ne 114, 3) := by decide +kernel
theorem dL_refused_314 : decode cL_refused 314 = .ok (.aload_n 0, 1) := by decide +kernel
theorem dL_refused_315 : decode cL_refused 315 = .ok (.bipush 9, 2) := by decide +kernel
theorem dL_refused_317 : decode cL_refused 317 = .ok (.invokevirtual 63, 3) := by decide +kernel
theorem dL_refused_320 : decode cL_refused 320 = .ok (.iconst (-1), 1) := by decide +kernel
theorem dL_refused_321 : decode cL_refused 321 = .ok (.if_icmp .ne 104, 3) := by decide +kernel
theorem dL_refused_324 : decode cL_refused 324 = .ok (.aload_n 0, 1) := by decide +kernel
theorem dL_refused_325 : decode cL_refused 325 = .ok (.bipush 61, 2) := by decide +kernel
theorem dL_refused_327 : decode cL_refused 327 = .ok (.invokevirtual 63, 3) := by decide +kernel
theorem dL_refused_330 : decode cL_refused 330 = .ok (.iconst (-1), 1) := by decide +kernel
theorem dL_refused_331 : decode cL_refused 331 = .ok (.if_icmp .ne 94, 3) := by decide +kernel
theorem dL_refused_334 : decode cL_refused 334 = .ok (.aload_n 0, 1) := by decide +kernel
theorem dL_refused_335 : decode cL_refused 335 = .ok (.iconst 2, 1) := by decide +kernel
theorem dL_refused_336 : decode cL_refused 336 = .ok (.iconst 0, 1) := by decide +kernel
theorem dL_refused_337 : decode cL_refused 337 = .ok (.iconst 0, 1) := by decide +kernel
theorem dL_refused_338 : decode cL_refused 338 = .ok (.invokevirtual 53, 3) := by decide +kernel
theorem dL_refused_341 : decode cL_refused 341 = .ok (.iconst (-1), 1) := by decide +kernel
theorem dL_refused_342 : decode cL_refused 342 = .ok (.if_icmp .ne 83, 3) := by decide +kernel
theorem dL_refused_345 : decode cL_refused 345 = .ok (.aload_n 0, 1) := by decide +kernel
theorem dL_refused_346 : decode cL_refused 346 = .ok (.iconst 0, 1) := by decide +kernel
theorem dL_refused_347 : decode cL_refused 347 = .ok (.bipush (-2), 2) := by decide +kernel
theorem dL_refused_349 : decode cL_refused 349 = .ok (.iconst 0, 1) := by decide +kernel
theorem dL_refused_350 : decode cL_refused 350 = .ok (.invokevirtual 53, 3) := by decide +kernel
theorem dL_refused_353 : decode cL_refused 353 = .ok (.iconst (-1), 1) := by decide +kernel
theorem dL_refused_354 : decode cL_refused 354 = .ok (.if_icmp .ne 71, 3) := by decide +kernel
theorem dL_refused_357 : decode cL_refused 357 = .ok (.aload_n 0, 1) := by decide +kernel
theorem dL_refused_358 : decode cL_refused 358 = .ok (.iconst 0, 1) := by decide +kernel
theorem dL_refused_359 : decode cL_refused 359 = .ok (.iconst (-1), 1) := by decide +kernel
theorem dL_refused_360 : decode cL_refused 360 = .ok (.iconst 0, 1) := by decide +kernel
theorem dL_refused_361 : decode cL_refused 361 = .ok (.invokevirtual 109, 3) := by decide +kernel
theorem dL_refused_364 : decode cL_refused 364 = .ok (.iconst (-1), 1) := by decide +kernel
theorem dL_refused_365 : decode cL_refused 365 = .ok (.if_icmp .ne 60, 3) := by decide +kernel
theorem dL_refused_368 : decode cL_refused 368 = .ok (.aload_n 0, 1) := by decide +kernel
theorem dL_refused_369 : decode cL_refused 369 = .ok (.iconst 0, 1) := by decide +kernel
theorem dL_refused_370 : decode cL_refused 370 = .ok (.iconst 0, 1) := by decide +kernel
theorem dL_refused_371 : decode cL_refused 371 = .ok (.bipush 100, 2) := by decide +kernel
theorem dL_refused_373 : decode cL_refused 373 = .ok (.invokevirtual 109, 3) := by decide +kernel
theorem dL_refused_376 : decode cL_refused 376 = .ok (.iconst (-1), 1) := by decide +kernel
theorem dL_refused_377 : decode cL_refused 377 = .ok (.if_icmp .ne 48, 3) := by decide +kernel
theorem dL_refused_380 : decode cL_refused 380 = .ok (.aload_n 0, 1) := by decide +kernel
theorem dL_refused_381 : decode cL_refused 381 = .ok (.iconst 1, 1) := by decide +kernel
theorem dL_refused_382 : decode cL_refused 382 = .ok (.iconst 2, 1) := by decide +kernel
theorem dL_refused_383 : decode cL_refused 383 = .ok (.iconst 0, 1) := by decide +kernel
theorem dL_refused_384 : decode cL_refused 384 = .ok (.invokevirtual 112, 3) := by decide +kernel
theorem dL_refused_387 : decode cL_refused 387 = .ok (.iconst (-1), 1) := by decide +kernel
theorem dL_refused_388 : decode cL_refused 388 = .ok (.if_icmp .ne 37, 3) := by decide +kernel
theorem dL_refused_391 : decode cL_refused 391 = .ok (.aload_n 0, 1) := by decide +kernel
theorem dL_refused_392 : decode cL_refused 392 = .ok (.iconst (-1), 1) := by decide +kernel
theorem dL_refused_393 : decode cL_refused 393 = .ok (.invokevirtual 115, 3) := by decide +kernel
theorem dL_refused_396 : decode cL_refused 396 = .ok (.iconst (-1), 1) := by decide +kernel
theorem dL_refused_397 : decode cL_refused 397 = .ok (.if_icmp .ne 28, 3) := by decide +kernel
theorem dL_refused_400 : decode cL_refused 400 = .ok (.aload_n 0, 1) := by decide +kernel
theorem dL_refused_401 : decode cL_refused 401 = .ok (.iconst 2, 1) := by decide +kernel
theorem dL_refused_402 : decode cL_refused 402 = .ok (.iconst 0, 1) := by decide +kernel
theorem dL_refused_403 : decode cL_refused 403 = .ok (.iconst 0, 1) := by decide +kernel
theorem dL_refused_404 : decode cL_refused 404 = .ok (.invokevirtual 118, 3) := by decide +kernel
theorem dL_refused_407 : decode cL_refused 407 = .ok (.iconst (-1), 1) := by decide +kernel
theorem dL_refused_408 : decode cL_refused 408 = .ok (.if_icmp .ne 17, 3) := by decide +kernel
theorem dL_refused_411 : decode cL_refused 411 = .ok (.aload_n 0, 1) := by decide +kernel
theorem dL_refused_412 : decode cL_refused 412 = .ok (.bipush 10, 2) := by decide +kernel
theorem dL_refused_414 : decode cL_refused 414 = .ok (.invokevirtual 43, 3) := by decide +kernel
theorem dL_refused_417 : decode cL_refused 417 = .ok (.iconst (-1), 1) := by decide +kernel
theorem dL_refused_418 : decode cL_refused 418 = .ok (.if_icmp .ne 7, 3) := by decide +kernel
theorem dL_refused_421 : decode cL_refused 421 = .ok (.iconst 1, 1) := by decide +kernel
theorem dL_refused_422 : decode cL_refused 422 = .ok (.goto 4, 3) := by decide +kernel
theorem dL_refused_425 : decode cL_refused 425 = .ok (.iconst 0, 1) := by decide +kernel
theorem dL_refused_426 : decode cL_refused 426 = .ok (.istore 4, 2) := by decide +kernel
theorem dL_refused_428 : decode cL_refused 428 = .ok (.iload 4, 2) := by decide +kernel
theorem dL_refused_430 : decode cL_refused 430 = .ok (.ifCond .eq 26, 3) := by decide +kernel
theorem dL_refused_433 : decode cL_refused 433 = .ok (.aload_n 0, 1) := by decide +kernel
theorem dL_refused_434 : decode cL_refused 434 = .ok (.invokestatic 66, 3) := by decide +kernel
theorem dL_refused_437 : decode cL_refused 437 = .ok (.lload_n 1, 1) := by decide +kernel
theorem dL_refused_438 : decode cL_refused 438 = .ok (.lcmp, 1) := by decide +kernel
theorem dL_refused_439 : decode cL_refused 439 = .ok (.ifCond .ne 17, 3) := by decide +kernel
theorem dL_refused_442 : decode cL_refused 442 = .ok (.aload_n 0, 1) := by decide +kernel
theorem dL_refused_443 : decode cL_refused 443 = .ok (.bipush 7, 2) := by decide +kernel
theorem dL_refused_445 : decode cL_refused 445 = .ok (.invokevirtual 43, 3) := by decide +kernel
theorem dL_refused_448 : decode cL_refused 448 = .ok (.iload_n 3, 1) := by decide +kernel
theorem dL_refused_449 : decode cL_refused 449 = .ok (.if_icmp .ne 7, 3) := by decide +kernel
theorem dL_refused_452 : decode cL_refused 452 = .ok (.iconst 1, 1) := by decide +kernel
theorem dL_refused_453 : decode cL_refused 453 = .ok (.goto 4, 3) := by decide +kernel
theorem dL_refused_456 : decode cL_refused 456 = .ok (.iconst 0, 1) := by decide +kernel
theorem dL_refused_457 : decode cL_refused 457 = .ok (.ireturn, 1) := by decide +kernel
set_option maxRecDepth 20000 in
theorem ggL_law_X7_init : GoodIn wsL_law wsX7_init := goodIn_r _ [7, 8, 9, 10, 11, 12, 13, 14, 15, 16, 17, 18, 19, 20, 21, 22, 23, 24, 25, 26, 27, 28, 29, 30, 31, 32, 33, 34, 35, 36, 37, 38, 39, 40, 41, 42, 43, 44, 45, 46, 47, 48, 49, 50, 51, 52, 53, 54, 55, 56, 57, 58, 59, 60, 61, 62, 63, 64, 65, 66, 67, 68, 69, 70, 71, 72, 73, 74, 75, 76, 77, 78, 79, 80, 81, 82, 83, 84, 85, 86, 87, 88, 89, 3, 90, 91, 92, 93, 94, 95, 96, 97, 98, 99, 100, 101, 102, 103, 104, 105, 106, 107, 108, 109, 110, 111, 112, 113, 114, 115, 116, 117, 118, 119, 120, 121, 122, 123, 124, 125, 126, 127, 569, 570, 571, 559, 560, 561, 562, 563, 564, 565, 566, 567, 568, 572, 573, 574, 575, 576, 577, 578, 579, 580, 581, 582, 583, 584, 585, 586, 587, 588, 589, 590, 591, 592, 593, 594, 595, 596, 597, 598, 599, 600, 601, 602, 603, 604] rfl (by decide +kernel)
set_option maxRecDepth 20000 in
theorem gL_law_X7_init : GoodIn wsL_law (wsX7_init) := ggL_law_X7_init
set_option maxRecDepth 20000 in
theorem ggL_law_X7_undo : GoodIn wsL_law wsX7_undo := goodIn_r _ [131, 132, 27, 28, 29, 30, 31, 559, 560, 561, 562, 563, 564, 565, 566, 567, 568] rfl (by decide +kernel)
set_option maxRecDepth 20000 in
theorem gL_law_X7_undo : GoodIn wsL_law (wsV RL 92 RX7 yX7_undo wsX7_undo) := goodIn_app (goodIn_of _ (by decide +kernel)) ggL_law_X7_undo
set_option maxRecDepth 20000 in
theorem ggL_law_X7_fault : GoodIn wsL_law wsX7_fault := goodIn_r _ [136, 14, 23, 137, 138, 139, 13, 140, 141, 142, 143, 62, 63, 21, 64, 65, 66, 67, 68, 69, 56, 57, 70, 71, 72, 55, 73, 74, 75, 76, 144, 145, 146, 147, 148, 149, 150, 151, 36, 152, 153, 154, 155, 156, 157, 158, 159, 160, 161, 2, 162, 163, 164, 165, 166, 167, 168, 169, 170, 171, 172, 173, 174, 175, 176, 177, 178, 179, 180, 181, 182, 183, 184, 185, 186, 187, 188, 559, 560, 561, 562, 563, 564, 565, 566, 567, 568, 569, 570, 571, 575, 576, 577, 578, 579, 580, 581, 599, 600, 601] rfl (by decide +kernel)
set_option maxRecDepth 20000 in
theorem gL_law_X7_fault : GoodIn wsL_law (wsV RL 33 RX7 yX7_fault wsX7_fault) := goodIn_app (goodIn_of _ (by decide +kernel)) ggL_law_X7_fault
set_option maxRecDepth 20000 in
theorem ggL_law_X7_count : GoodIn wsL_law wsX7_count := goodIn_r _ [192, 22, 193, 194, 195, 196, 197, 27, 198, 199, 200, 132, 14, 201, 202, 203, 204, 17, 205, 44, 206, 43, 207, 559, 560, 561, 562, 563, 564, 565, 566, 567, 568, 575, 576, 577, 578, 579, 580, 581, 582, 583, 584, 585, 572, 573, 574, 569, 570, 571, 586, 587, 588, 589, 590, 591, 592, 593, 594, 595, 596, 597, 598] rfl (by decide +kernel)
set_option maxRecDepth 20000 in
theorem gL_law_X7_count : GoodIn wsL_law (wsV RL 43 RX7 yX7_count wsX7_count) := goodIn_app (goodIn_of _ (by decide +kernel)) ggL_law_X7_count
set_option maxRecDepth 20000 in
theorem ggL_law_X7_crane : GoodIn wsL_law wsX7_crane := goodIn_r _ [211, 27, 198, 212, 213, 214, 215, 216, 217, 218, 219, 220, 22, 195, 221, 177, 2, 178, 222, 223, 224, 17, 225, 43, 44, 226, 227, 228, 42, 229, 230, 114, 231, 232, 233, 234, 235, 236, 237, 238, 125, 127, 239, 240, 241, 242, 243, 244, 245, 246, 247, 248, 249, 250, 251, 110, 117, 115, 252, 116, 253, 559, 560, 561, 562, 563, 564, 565, 566, 567, 568, 582, 583, 584, 585, 586, 587, 588, 589, 590, 591, 592, 593, 594, 595, 596, 597, 598, 575, 576, 577, 578, 579, 580, 581, 572, 573, 574] rfl (by decide +kernel)
set_option maxRecDepth 20000 in
theorem gL_law_X7_crane : GoodIn wsL_law (wsV RL 46 RX7 yX7_crane wsX7_crane) := goodIn_app (goodIn_of _ (by decide +kernel)) ggL_law_X7_crane
set_option maxRecDepth 20000 in
theorem ggL_law_L_holds : GoodIn wsL_law wsL_holds := goodIn_r _ [257, 4, 208, 209, 210, 2, 211, 27, 198, 212, 213, 214, 215, 216, 217, 218, 219, 220, 22, 195, 221, 177, 178, 222, 223, 224, 17, 225, 43, 44, 226, 227, 228, 42, 229, 230, 114, 231, 232, 233, 234, 235, 236, 237, 238, 125, 127, 239, 240, 241, 242, 243, 244, 245, 246, 247, 248, 249, 250, 251, 110, 117, 115, 252, 116, 253, 189, 190, 191, 192, 193, 194, 196, 197, 199, 200, 132, 14, 201, 202, 203, 204, 205, 206, 207, 258, 259, 256, 260, 261, 262, 263, 264, 265, 266, 267, 181, 161, 162, 268, 269, 270, 271, 272, 179, 180, 273, 274, 275, 276, 277, 278, 279, 280, 26, 281, 85, 86, 282, 283, 284, 84, 285, 286, 287, 288, 289, 90, 290, 291, 292, 293, 294, 295, 296, 297, 298, 91, 559, 560, 561, 562, 563, 564, 565, 566, 567, 568, 582, 583, 584, 585, 586, 587, 588, 589, 590, 591, 592, 593, 594, 595, 596, 597, 598, 575, 576, 577, 578, 579, 580, 581, 572, 573, 574, 569, 570, 571, 602, 603, 604] rfl (by decide +kernel)
set_option maxRecDepth 20000 in
theorem gL_law_L_holds : GoodIn wsL_law (va_wsS RL 88 yL_holds wsL_holds) := goodIn_app (goodIn_of _ (by decide +kernel)) ggL_law_L_holds
set_option maxRecDepth 20000 in
theorem ggL_law_L_refused : GoodIn wsL_law wsL_refused := goodIn_r _ [301, 302, 303, 256, 304, 305, 306, 189, 190, 191, 2, 192, 22, 193, 194, 195, 196, 197, 27, 198, 199, 200, 132, 14, 201, 202, 203, 204, 17, 205, 44, 206, 43, 207, 208, 209, 210, 211, 212, 213, 214, 215, 216, 217, 218, 219, 220, 221, 177, 178, 222, 223, 224, 225, 226, 227, 228, 42, 229, 230, 114, 231, 232, 233, 234, 235, 236, 237, 238, 125, 127, 239, 240, 241, 242, 243, 244, 245, 246, 247, 248, 249, 250, 251, 110, 117, 115, 252, 116, 253, 307, 308, 309, 310, 181, 161, 162, 311, 312, 313, 314, 124, 126, 315, 316, 317, 318, 319, 320, 321, 322, 273, 274, 275, 276, 277, 278, 279, 280, 26, 281, 85, 86, 282, 283, 284, 84, 285, 286, 287, 288, 289, 90, 290, 291, 292, 293, 294, 295, 296, 297, 298, 91, 323, 324, 325, 326, 327, 328, 329, 13, 330, 142, 331, 332, 333, 334, 36, 335, 336, 337, 338, 265, 266, 267, 339, 340, 341, 342, 31, 30, 29, 28, 343, 344, 345, 346, 347, 348, 349, 81, 97, 350, 351, 352, 353, 45, 354, 355, 356, 357, 109, 112, 118, 119, 358, 359, 360, 361, 362, 363, 364, 365, 366, 367, 368, 369, 370, 371, 372, 373, 374, 375, 376, 377, 378, 379, 380, 381, 382, 120, 121, 122, 123, 383, 384, 385, 386, 387, 388, 389, 390, 391, 392, 393, 394, 395, 396, 397, 398, 399, 400, 401, 402, 403, 404, 405, 406, 272, 179, 180, 407, 408, 409, 410, 411, 412, 413, 414, 415, 416, 417, 418, 419, 420, 421, 422, 423, 424, 425, 426, 427, 428, 429, 430, 431, 432, 433, 434, 435, 436, 437, 438, 439, 440, 441, 442, 443, 444, 445, 446, 447, 448, 449, 450, 451, 452, 453, 454, 455, 456, 457, 458, 459, 460, 461, 462, 463, 464, 465, 466, 467, 468, 469, 470, 471, 472, 473, 474, 475, 476, 477, 478, 479, 480, 481, 482, 483, 484, 485, 261, 262, 263, 264, 268, 269, 270, 271, 486, 487, 488, 489, 490, 491, 492, 493, 494, 495, 496, 497, 18, 498, 499, 500, 501, 502, 503, 504, 505, 506, 507, 508, 509, 510, 511, 512, 559, 560, 561, 562, 563, 564, 565, 566, 567, 568, 575, 576, 577, 578, 579, 580, 581, 582, 583, 584, 585, 572, 573, 574, 569, 570, 571, 586, 587, 588, 589, 590, 591, 592, 593, 594, 595, 596, 597, 598, 602, 603, 604] rfl (by decide +kernel)
set_option maxRecDepth 20000 in
theorem gL_law_L_refused : GoodIn wsL_law (va_wsS RL 122 yL_refused wsL_refused) := goodIn_app (goodIn_of _ (by decide +kernel)) ggL_law_L_refused
set_option maxRecDepth 20000 in
theorem ggL_law_L_lays : GoodIn wsL_law wsL_lays := goodIn_r _ [515, 516, 517, 518, 2, 519, 14, 201, 520, 521, 256, 522, 523, 524, 525, 526, 527, 323, 324, 325, 326, 181, 161, 162, 327, 328, 329, 13, 330, 142, 331, 332, 333, 334, 36, 528, 529, 530, 133, 134, 135, 136, 23, 137, 138, 139, 140, 141, 143, 62, 63, 21, 64, 65, 66, 67, 68, 69, 56, 57, 70, 71, 72, 55, 73, 74, 75, 76, 144, 145, 146, 147, 148, 149, 150, 151, 152, 153, 154, 155, 156, 157, 158, 159, 160, 163, 164, 165, 166, 167, 168, 169, 170, 171, 172, 173, 174, 175, 176, 177, 178, 179, 180, 182, 183, 184, 185, 186, 187, 188, 531, 532, 533, 534, 22, 27, 132, 193, 535, 536, 537, 538, 539, 92, 93, 94, 26, 95, 81, 85, 96, 86, 97, 98, 99, 100, 17, 101, 43, 102, 44, 103, 45, 104, 105, 106, 42, 107, 108, 109, 110, 111, 112, 113, 114, 115, 116, 117, 118, 119, 120, 121, 122, 123, 124, 125, 126, 127, 559, 560, 561, 562, 563, 564, 565, 566, 567, 568, 569, 570, 571, 575, 576, 577, 578, 579, 580, 581, 599, 600, 601, 582, 583, 584, 585, 602, 603, 604, 572, 573, 574, 586, 587, 588, 589, 590, 591, 592, 593, 594, 595, 596, 597, 598] rfl (by decide +kernel)
set_option maxRecDepth 20000 in
theorem gL_law_L_lays : GoodIn wsL_law (va_wsS RL 125 yL_lays wsL_lays) := goodIn_app (goodIn_of _ (by decide +kernel)) ggL_law_L_lays
set_option maxRecDepth 20000 in
theorem ggL_law_X7_spot : GoodIn wsL_law wsX7_spot := goodIn_r _ [276, 27, 277, 221, 177, 2, 178, 181, 161, 162, 278, 279, 280, 26, 281, 85, 86, 282, 283, 284, 84, 285, 286, 287, 288, 289, 90, 290, 291, 292, 293, 294, 295, 296, 297, 298, 91, 559, 560, 561, 562, 563, 564, 565, 566, 567, 568, 602, 603, 604, 582, 583, 584, 585] rfl (by decide +kernel)
set_option maxRecDepth 20000 in
theorem gL_law_X7_spot : GoodIn wsL_law (wsV RL 53 RX7 yX7_spot wsX7_spot) := goodIn_app (goodIn_of _ (by decide +kernel)) ggL_law_X7_spot
set_option maxRecDepth 20000 in
theorem ggL_law_L_undoes : GoodIn wsL_law wsL_undoes := goodIn_r _ [542, 543, 189, 190, 191, 2, 192, 22, 193, 194, 195, 196, 197, 27, 198, 199, 200, 132, 14, 201, 202, 203, 204, 17, 205, 44, 206, 43, 207, 520, 521, 256, 522, 523, 524, 525, 526, 527, 302, 303, 304, 305, 306, 208, 209, 210, 211, 212, 213, 214, 215, 216, 217, 218, 219, 220, 221, 177, 178, 222, 223, 224, 225, 226, 227, 228, 42, 229, 230, 114, 231, 232, 233, 234, 235, 236, 237, 238, 125, 127, 239, 240, 241, 242, 243, 244, 245, 246, 247, 248, 249, 250, 251, 110, 117, 115, 252, 116, 253, 307, 308, 309, 310, 181, 161, 162, 311, 312, 313, 314, 124, 126, 315, 316, 317, 318, 319, 320, 321, 322, 273, 274, 275, 276, 277, 278, 279, 280, 26, 281, 85, 86, 282, 283, 284, 84, 285, 286, 287, 288, 289, 90, 290, 291, 292, 293, 294, 295, 296, 297, 298, 91, 424, 425, 426, 427, 339, 340, 341, 342, 31, 30, 29, 28, 343, 344, 345, 346, 347, 348, 349, 81, 97, 350, 351, 352, 353, 45, 354, 355, 356, 357, 109, 112, 118, 119, 358, 359, 360, 361, 362, 363, 364, 365, 366, 428, 429, 430, 431, 432, 433, 434, 435, 436, 437, 438, 439, 440, 441, 442, 443, 444, 445, 446, 447, 448, 449, 450, 451, 452, 453, 454, 455, 456, 457, 458, 459, 460, 461, 462, 463, 464, 465, 466, 467, 468, 469, 470, 471, 472, 473, 474, 475, 476, 477, 478, 479, 480, 481, 482, 483, 484, 485, 335, 336, 337, 338, 265, 266, 267, 367, 368, 369, 370, 371, 372, 373, 374, 375, 376, 377, 378, 379, 380, 381, 382, 120, 121, 122, 123, 383, 384, 385, 386, 387, 388, 389, 390, 391, 392, 393, 394, 395, 396, 397, 398, 399, 400, 401, 402, 403, 404, 405, 406, 272, 179, 180, 407, 408, 409, 410, 411, 412, 413, 414, 415, 416, 417, 418, 419, 420, 421, 422, 423, 254, 255, 257, 4, 258, 259, 260, 261, 262, 263, 264, 268, 269, 270, 271, 128, 129, 130, 131, 559, 560, 561, 562, 563, 564, 565, 566, 567, 568, 575, 576, 577, 578, 579, 580, 581, 582, 583, 584, 585, 572, 573, 574, 569, 570, 571, 586, 587, 588, 589, 590, 591, 592, 593, 594, 595, 596, 597, 598, 602, 603, 604] rfl (by decide +kernel)
set_option maxRecDepth 20000 in
theorem gL_law_L_undoes : GoodIn wsL_law (va_wsS RL 129 yL_undoes wsL_undoes) := goodIn_app (goodIn_of _ (by decide +kernel)) ggL_law_L_undoes
set_option maxRecDepth 20000 in
theorem ggL_law_L_faults : GoodIn wsL_law wsL_faults := goodIn_r _ [546, 516, 517, 518, 2, 519, 14, 201, 547, 548, 256, 549, 3, 323, 324, 325, 326, 181, 161, 162, 327, 328, 329, 13, 330, 142, 331, 332, 333, 334, 36, 550, 551, 552, 302, 303, 304, 305, 306, 189, 190, 191, 192, 22, 193, 194, 195, 196, 197, 27, 198, 199, 200, 132, 202, 203, 204, 17, 205, 44, 206, 43, 207, 208, 209, 210, 211, 212, 213, 214, 215, 216, 217, 218, 219, 220, 221, 177, 178, 222, 223, 224, 225, 226, 227, 228, 42, 229, 230, 114, 231, 232, 233, 234, 235, 236, 237, 238, 125, 127, 239, 240, 241, 242, 243, 244, 245, 246, 247, 248, 249, 250, 251, 110, 117, 115, 252, 116, 253, 307, 308, 309, 310, 311, 312, 313, 314, 124, 126, 315, 316, 317, 318, 319, 320, 321, 322, 273, 274, 275, 276, 277, 278, 279, 280, 26, 281, 85, 86, 282, 283, 284, 84, 285, 286, 287, 288, 289, 90, 290, 291, 292, 293, 294, 295, 296, 297, 298, 91, 133, 134, 135, 136, 23, 137, 138, 139, 140, 141, 143, 62, 63, 21, 64, 65, 66, 67, 68, 69, 56, 57, 70, 71, 72, 55, 73, 74, 75, 76, 144, 145, 146, 147, 148, 149, 150, 151, 152, 153, 154, 155, 156, 157, 158, 159, 160, 163, 164, 165, 166, 167, 168, 169, 170, 171, 172, 173, 174, 175, 176, 179, 180, 182, 183, 184, 185, 186, 187, 188, 531, 532, 533, 534, 535, 536, 537, 538, 539, 92, 93, 94, 95, 81, 96, 97, 98, 99, 100, 101, 102, 103, 45, 104, 105, 106, 107, 108, 109, 111, 112, 113, 118, 119, 120, 121, 122, 123, 553, 554, 555, 528, 529, 530, 556, 557, 558, 559, 560, 561, 562, 563, 564, 565, 566, 567, 568, 569, 570, 571, 575, 576, 577, 578, 579, 580, 581, 582, 583, 584, 585, 572, 573, 574, 586, 587, 588, 589, 590, 591, 592, 593, 594, 595, 596, 597, 598, 602, 603, 604, 599, 600, 601] rfl (by decide +kernel)
set_option maxRecDepth 20000 in
theorem gL_law_L_faults : GoodIn wsL_law (va_wsS RL 133 yL_faults wsL_faults) := goodIn_app (goodIn_of _ (by decide +kernel)) ggL_law_L_faults
set_option maxRecDepth 20000 in
theorem ggL_law_L_says : GoodIn wsL_law wsL_says := goodIn_r _ [549, 3, 323, 324, 325, 2, 326, 14, 201, 181, 161, 162, 327, 328, 329, 13, 330, 142, 331, 332, 333, 334, 36, 559, 560, 561, 562, 563, 564, 565, 566, 567, 568, 569, 570, 571] rfl (by decide +kernel)
set_option maxRecDepth 20000 in
theorem gL_law_L_says : GoodIn wsL_law (va_wsS RL 95 yL_says wsL_says) := goodIn_app (goodIn_of _ (by decide +kernel)) ggL_law_L_says
set_option maxRecDepth 20000 in
theorem ggL_law_L_crane : GoodIn wsL_law wsL_crane := goodIn_r _ [555, 323, 324, 325, 2, 326, 14, 201, 181, 161, 162, 327, 328, 329, 13, 330, 142, 331, 332, 333, 334, 36, 528, 529, 256, 530, 559, 560, 561, 562, 563, 564, 565, 566, 567, 568, 569, 570, 571] rfl (by decide +kernel)
set_option maxRecDepth 20000 in
theorem gL_law_L_crane : GoodIn wsL_law (va_wsS RL 103 yL_crane wsL_crane) := goodIn_app (goodIn_of _ (by decide +kernel)) ggL_law_L_crane
set_option maxRecDepth 20000 in
theorem ggL_law_X7_lay : GoodIn wsL_law wsX7_lay := goodIn_r _ [534, 14, 23, 22, 27, 132, 193, 137, 138, 139, 13, 140, 141, 142, 143, 62, 63, 21, 64, 65, 66, 67, 68, 69, 56, 57, 70, 71, 72, 55, 73, 74, 75, 76, 144, 145, 146, 147, 148, 149, 150, 151, 36, 152, 153, 154, 155, 156, 157, 158, 159, 160, 161, 2, 162, 163, 164, 165, 166, 167, 168, 169, 170, 171, 172, 173, 174, 175, 176, 177, 178, 179, 180, 181, 182, 183, 184, 185, 186, 187, 188, 535, 536, 537, 538, 539, 92, 93, 94, 26, 95, 81, 85, 96, 86, 97, 98, 99, 100, 17, 101, 43, 102, 44, 103, 45, 104, 105, 106, 42, 107, 108, 109, 110, 111, 112, 113, 114, 115, 116, 117, 118, 119, 120, 121, 122, 123, 124, 125, 126, 127, 559, 560, 561, 562, 563, 564, 565, 566, 567, 568, 575, 576, 577, 578, 579, 580, 581, 569, 570, 571, 599, 600, 601, 582, 583, 584, 585, 602, 603, 604, 572, 573, 574, 586, 587, 588, 589, 590, 591, 592, 593, 594, 595, 596, 597, 598] rfl (by decide +kernel)
set_option maxRecDepth 20000 in
theorem gL_law_X7_lay : GoodIn wsL_law (wsV RL 36 RX7 yX7_lay wsX7_lay) := goodIn_app (goodIn_of _ (by decide +kernel)) ggL_law_X7_lay
set_option maxRecDepth 20000 in
theorem ggL_law_X7_command : GoodIn wsL_law wsX7_command := goodIn_r _ [338, 27, 198, 221, 177, 2, 178, 265, 266, 267, 181, 161, 162, 339, 340, 341, 342, 31, 30, 29, 28, 132, 343, 344, 233, 345, 346, 347, 348, 26, 349, 81, 85, 86, 97, 350, 351, 352, 17, 353, 43, 44, 45, 354, 355, 356, 42, 357, 109, 110, 112, 114, 115, 116, 117, 118, 124, 125, 126, 127, 119, 358, 359, 360, 84, 361, 298, 286, 287, 288, 289, 90, 362, 295, 296, 297, 91, 363, 364, 365, 366, 367, 368, 369, 370, 371, 372, 373, 374, 375, 376, 377, 378, 379, 380, 381, 382, 120, 121, 122, 123, 383, 384, 385, 386, 387, 388, 389, 390, 559, 560, 561, 562, 563, 564, 565, 566, 567, 568, 582, 583, 584, 585, 572, 573, 574, 586, 587, 588, 589, 590, 591, 592, 593, 594, 595, 596, 597, 598, 602, 603, 604] rfl (by decide +kernel)
set_option maxRecDepth 20000 in
theorem gL_law_X7_command : GoodIn wsL_law (wsV RL 73 RX7 yX7_command wsX7_command) := goodIn_app (goodIn_of _ (by decide +kernel)) ggL_law_X7_command
set_option maxRecDepth 20000 in
theorem ggL_law_X7_tick : GoodIn wsL_law wsX7_tick := goodIn_r _ [427, 27, 200, 22, 181, 161, 2, 162, 339, 340, 341, 342, 31, 30, 29, 28, 132, 343, 344, 233, 345, 346, 347, 348, 26, 349, 81, 85, 86, 97, 350, 351, 352, 17, 353, 43, 44, 45, 354, 355, 356, 42, 357, 109, 110, 112, 114, 115, 116, 117, 118, 124, 125, 126, 127, 119, 358, 359, 360, 84, 361, 298, 286, 287, 288, 289, 90, 362, 295, 296, 297, 91, 363, 364, 365, 366, 428, 429, 430, 431, 432, 433, 434, 435, 436, 437, 206, 438, 439, 440, 441, 442, 203, 204, 205, 207, 443, 444, 445, 446, 447, 448, 449, 450, 451, 452, 453, 454, 455, 456, 227, 228, 229, 230, 231, 232, 234, 457, 458, 459, 240, 241, 242, 243, 244, 460, 461, 462, 463, 252, 464, 465, 466, 467, 468, 469, 470, 471, 472, 473, 474, 475, 476, 477, 478, 479, 480, 481, 482, 483, 484, 485, 559, 560, 561, 562, 563, 564, 565, 566, 567, 568, 582, 583, 584, 585, 572, 573, 574, 586, 587, 588, 589, 590, 591, 592, 593, 594, 595, 596, 597, 598, 602, 603, 604, 575, 576, 577, 578, 579, 580, 581] rfl (by decide +kernel)
set_option maxRecDepth 20000 in
theorem gL_law_X7_tick : GoodIn wsL_law (wsV RL 70 RX7 yX7_tick wsX7_tick) := goodIn_app (goodIn_of _ (by decide +kernel)) ggL_law_X7_tick
set_option maxRecDepth 20000 in
theorem ggL_law_X7_wipe : GoodIn wsL_law wsX7_wipe := goodIn_r _ [519, 14, 201, 559, 560, 561, 562, 563, 564, 565, 566, 567, 568, 569, 570, 571] rfl (by decide +kernel)
set_option maxRecDepth 20000 in
theorem gL_law_X7_wipe : GoodIn wsL_law (wsV RL 17 RX7 yX7_wipe wsX7_wipe) := goodIn_app (goodIn_of _ (by decide +kernel)) ggL_law_X7_wipe
set_option maxRecDepth 20000 in
theorem ggL_law_X7_been : GoodIn wsL_law wsX7_been := goodIn_r _ [489, 27, 221, 177, 2, 178, 181, 161, 162, 278, 279, 280, 26, 281, 85, 86, 490, 491, 492, 84, 493, 478, 479, 480, 481, 482, 483, 484, 485, 298, 286, 287, 288, 289, 90, 362, 295, 296, 297, 91, 559, 560, 561, 562, 563, 564, 565, 566, 567, 568, 582, 583, 584, 585, 602, 603, 604] rfl (by decide +kernel)
set_option maxRecDepth 20000 in
theorem gL_law_X7_been : GoodIn wsL_law (wsV RL 109 RX7 yX7_been wsX7_been) := goodIn_app (goodIn_of _ (by decide +kernel)) ggL_law_X7_been
set_option maxRecDepth 20000 in
theorem ggL_law_X7_write : GoodIn wsL_law wsX7_write := goodIn_r _ [326, 14, 201, 181, 161, 2, 162, 327, 328, 329, 13, 330, 142, 331, 332, 333, 334, 36, 559, 560, 561, 562, 563, 564, 565, 566, 567, 568, 569, 570, 571] rfl (by decide +kernel)
set_option maxRecDepth 20000 in
theorem gL_law_X7_write : GoodIn wsL_law (wsV RL 9 RX7 yX7_write wsX7_write) := goodIn_app (goodIn_of _ (by decide +kernel)) ggL_law_X7_write
theorem dL_law_0 : decode cL_law 0 = .ok (.new 10, 3) := by decide +kernel
theorem dL_law_3 : decode cL_law 3 = .ok (.dup, 1) := by decide +kernel
theorem dL_law_4 : decode cL_law 4 = .ok (.invokespecial 121, 3) := by decide +kernel
theorem dL_law_7 : decode cL_law 7 = .ok (.astore_n 1, 1) := by decide +kernel
theorem dL_law_8 : decode cL_law 8 = .ok (.bipush 40, 2) := by decide +kernel
theorem dL_law_10 : decode cL_law 10 = .ok (.newarray .int, 2) := by decide +kernel
theorem dL_law_12 : decode cL_law 12 = .ok (.astore_n 2, 1) := by decide +kernel
theorem dL_law_13 : decode cL_law 13 = .ok (.aload_n 1, 1) := by decide +kernel
theorem dL_law_14 : decode cL_law 14 = .ok (.invokevirtual 92, 3) := by decide +kernel
theorem dL_law_17 : decode cL_law 17 = .ok (.bipush (-2), 2) := by decide +kernel
theorem dL_law_19 : decode cL_law 19 = .ok (.if_icmp .ne 59, 3) := by decide +kernel
theorem dL_law_22 : decode cL_law 22 = .ok (.aload_n 1, 1) := by decide +kernel
theorem dL_law_23 : decode cL_law 23 = .ok (.invokevirtual 33, 3) := by decide +kernel
theorem dL_law_26 : decode cL_law 26 = .ok (.bipush (-4), 2) := by decide +kernel
theorem dL_law_28 : decode cL_law 28 = .ok (.if_icmp .ne 50, 3) := by decide +kernel
theorem dL_law_31 : decode cL_law 31 = .ok (.aload_n 1, 1) := by decide +kernel
theorem dL_law_32 : decode cL_law 32 = .ok (.iconst 0, 1) := by decide +kernel
theorem dL_law_33 : decode cL_law 33 = .ok (.invokevirtual 43, 3) := by decide +kernel
theorem dL_law_36 : decode cL_law 36 = .ok (.sipush 600, 3) := by decide +kernel
theorem dL_law_39 : decode cL_law 39 = .ok (.if_icmp .ne 39, 3) := by decide +kernel
theorem dL_law_42 : decode cL_law 42 = .ok (.aload_n 1, 1) := by decide +kernel
theorem dL_law_43 : decode cL_law 43 = .ok (.iconst 5, 1) := by decide +kernel
theorem dL_law_44 : decode cL_law 44 = .ok (.invokevirtual 43, 3) := by decide +kernel
theorem dL_law_47 : decode cL_law 47 = .ok (.bipush (-4), 2) := by decide +kernel
theorem dL_law_49 : decode cL_law 49 = .ok (.if_icmp .ne 29, 3) := by decide +kernel
theorem dL_law_52 : decode cL_law 52 = .ok (.aload_n 1, 1) := by decide +kernel
theorem dL_law_53 : decode cL_law 53 = .ok (.iconst 1, 1) := by decide +kernel
theorem dL_law_54 : decode cL_law 54 = .ok (.iconst 0, 1) := by decide +kernel
theorem dL_law_55 : decode cL_law 55 = .ok (.invokevirtual 46, 3) := by decide +kernel
theorem dL_law_58 : decode cL_law 58 = .ok (.sipush 500, 3) := by decide +kernel
theorem dL_law_61 : decode cL_law 61 = .ok (.if_icmp .ne 17, 3) := by decide +kernel
theorem dL_law_64 : decode cL_law 64 = .ok (.aload_n 1, 1) := by decide +kernel
theorem dL_law_65 : decode cL_law 65 = .ok (.invokestatic 88, 3) := by decide +kernel
theorem dL_law_68 : decode cL_law 68 = .ok (.ifCond .eq 10, 3) := by decide +kernel
theorem dL_law_71 : decode cL_law 71 = .ok (.aload_n 1, 1) := by decide +kernel
theorem dL_law_72 : decode cL_law 72 = .ok (.invokestatic 122, 3) := by decide +kernel
theorem dL_law_75 : decode cL_law 75 = .ok (.ifCond .ne 5, 3) := by decide +kernel
theorem dL_law_78 : decode cL_law 78 = .ok (.iconst 0, 1) := by decide +kernel
theorem dL_law_79 : decode cL_law 79 = .ok (.ireturn, 1) := by decide +kernel
theorem dL_law_80 : decode cL_law 80 = .ok (.iconst 0, 1) := by decide +kernel
theorem dL_law_81 : decode cL_law 81 = .ok (.istore_n 3, 1) := by decide +kernel
theorem dL_law_82 : decode cL_law 82 = .ok (.iload_n 3, 1) := by decide +kernel
theorem dL_law_83 : decode cL_law 83 = .ok (.iconst 4, 1) := by decide +kernel
theorem dL_law_84 : decode cL_law 84 = .ok (.if_icmp .ge 166, 3) := by decide +kernel
theorem dL_law_87 : decode cL_law 87 = .ok (.aload_n 1, 1) := by decide +kernel
theorem dL_law_88 : decode cL_law 88 = .ok (.aload_n 0, 1) := by decide +kernel
theorem dL_law_89 : decode cL_law 89 = .ok (.bipush 40, 2) := by decide +kernel
theorem dL_law_91 : decode cL_law 91 = .ok (.iload_n 3, 1) := by decide +kernel
theorem dL_law_92 : decode cL_law 92 = .ok (.imul, 1) := by decide +kernel
theorem dL_law_93 : decode cL_law 93 = .ok (.aload_n 2, 1) := by decide +kernel
theorem dL_law_94 : decode cL_law 94 = .ok (.invokestatic 125, 3) := by decide +kernel
theorem dL_law_97 : decode cL_law 97 = .ok (.ifCond .eq 19, 3) := by decide +kernel
theorem dL_law_100 : decode cL_law 100 = .ok (.aload_n 1, 1) := by decide +kernel
theorem dL_law_101 : decode cL_law 101 = .ok (.bipush 7, 2) := by decide +kernel
theorem dL_law_103 : decode cL_law 103 = .ok (.invokevirtual 43, 3) := by decide +kernel
theorem dL_law_106 : decode cL_law 106 = .ok (.ifCond .ne 10, 3) := by decide +kernel
theorem dL_law_109 : decode cL_law 109 = .ok (.aload_n 1, 1) := by decide +kernel
theorem dL_law_110 : decode cL_law 110 = .ok (.invokestatic 88, 3) := by decide +kernel
theorem dL_law_113 : decode cL_law 113 = .ok (.ifCond .ne 5, 3) := by decide +kernel
theorem dL_law_116 : decode cL_law 116 = .ok (.iconst 0, 1) := by decide +kernel
theorem dL_law_117 : decode cL_law 117 = .ok (.ireturn, 1) := by decide +kernel
theorem dL_law_118 : decode cL_law 118 = .ok (.iconst 0, 1) := by decide +kernel
theorem dL_law_119 : decode cL_law 119 = .ok (.istore 4, 2) := by decide +kernel
theorem dL_law_121 : decode cL_law 121 = .ok (.iload 4, 2) := by decide +kernel
theorem dL_law_123 : decode cL_law 123 = .ok (.iconst 2, 1) := by decide +kernel
theorem dL_law_124 : decode cL_law 124 = .ok (.if_icmp .ge 82, 3) := by decide +kernel
theorem dL_law_127 : decode cL_law 127 = .ok (.aload_n 1, 1) := by decide +kernel
theorem dL_law_128 : decode cL_law 128 = .ok (.iload 4, 2) := by decide +kernel
theorem dL_law_130 : decode cL_law 130 = .ok (.iconst 0, 1) := by decide +kernel
theorem dL_law_131 : decode cL_law 131 = .ok (.invokevirtual 46, 3) := by decide +kernel
theorem dL_law_134 : decode cL_law 134 = .ok (.aload_n 2, 1) := by decide +kernel
theorem dL_law_135 : decode cL_law 135 = .ok (.bipush 8, 2) := by decide +kernel
theorem dL_law_137 : decode cL_law 137 = .ok (.bipush 12, 2) := by decide +kernel
theorem dL_law_139 : decode cL_law 139 = .ok (.iload 4, 2) := by decide +kernel
theorem dL_law_141 : decode cL_law 141 = .ok (.imul, 1) := by decide +kernel
theorem dL_law_142 : decode cL_law 142 = .ok (.iadd, 1) := by decide +kernel
theorem dL_law_143 : decode cL_law 143 = .ok (.iaload, 1) := by decide +kernel
theorem dL_law_144 : decode cL_law 144 = .ok (.if_icmp .ne 54, 3) := by decide +kernel
theorem dL_law_147 : decode cL_law 147 = .ok (.aload_n 1, 1) := by decide +kernel
theorem dL_law_148 : decode cL_law 148 = .ok (.iload 4, 2) := by decide +kernel
theorem dL_law_150 : decode cL_law 150 = .ok (.iconst 2, 1) := by decide +kernel
theorem dL_law_151 : decode cL_law 151 = .ok (.invokevirtual 46, 3) := by decide +kernel
theorem dL_law_154 : decode cL_law 154 = .ok (.aload_n 2, 1) := by decide +kernel
theorem dL_law_155 : decode cL_law 155 = .ok (.bipush 10, 2) := by decide +kernel
theorem dL_law_157 : decode cL_law 157 = .ok (.bipush 12, 2) := by decide +kernel
theorem dL_law_159 : decode cL_law 159 = .ok (.iload 4, 2) := by decide +kernel
theorem dL_law_161 : decode cL_law 161 = .ok (.imul, 1) := by decide +kernel
theorem dL_law_162 : decode cL_law 162 = .ok (.iadd, 1) := by decide +kernel
theorem dL_law_163 : decode cL_law 163 = .ok (.iaload, 1) := by decide +kernel
theorem dL_law_164 : decode cL_law 164 = .ok (.if_icmp .ne 34, 3) := by decide +kernel
theorem dL_law_167 : decode cL_law 167 = .ok (.aload_n 1, 1) := by decide +kernel
theorem dL_law_168 : decode cL_law 168 = .ok (.iload 4, 2) := by decide +kernel
theorem dL_law_170 : decode cL_law 170 = .ok (.iconst 3, 1) := by decide +kernel
theorem dL_law_171 : decode cL_law 171 = .ok (.invokevirtual 46, 3) := by decide +kernel
theorem dL_law_174 : decode cL_law 174 = .ok (.aload_n 2, 1) := by decide +kernel
theorem dL_law_175 : decode cL_law 175 = .ok (.bipush 11, 2) := by decide +kernel
theorem dL_law_177 : decode cL_law 177 = .ok (.bipush 12, 2) := by decide +kernel
theorem dL_law_179 : decode cL_law 179 = .ok (.iload 4, 2) := by decide +kernel
theorem dL_law_181 : decode cL_law 181 = .ok (.imul, 1) := by decide +kernel
theorem dL_law_182 : decode cL_law 182 = .ok (.iadd, 1) := by decide +kernel
theorem dL_law_183 : decode cL_law 183 = .ok (.iaload, 1) := by decide +kernel
theorem dL_law_184 : decode cL_law 184 = .ok (.if_icmp .ne 14, 3) := by decide +kernel
theorem dL_law_187 : decode cL_law 187 = .ok (.aload_n 1, 1) := by decide +kernel
theorem dL_law_188 : decode cL_law 188 = .ok (.iload 4, 2) := by decide +kernel
theorem dL_law_190 : decode cL_law 190 = .ok (.iconst (-1), 1) := by decide +kernel
theorem dL_law_191 : decode cL_law 191 = .ok (.iconst 0, 1) := by decide +kernel
theorem dL_law_192 : decode cL_law 192 = .ok (.invokevirtual 53, 3) := by decide +kernel
theorem dL_law_195 : decode cL_law 195 = .ok (.ifCond .eq 5, 3) := by decide +kernel
theorem dL_law_198 : decode cL_law 198 = .ok (.iconst 0, 1) := by decide +kernel
theorem dL_law_199 : decode cL_law 199 = .ok (.ireturn, 1) := by decide +kernel
theorem dL_law_200 : decode cL_law 200 = .ok (.iinc 4 1, 3) := by decide +kernel
theorem dL_law_203 : decode cL_law 203 = .ok (.goto (-82), 3) := by decide +kernel
theorem dL_law_206 : decode cL_law 206 = .ok (.aload_n 1, 1) := by decide +kernel
theorem dL_law_207 : decode cL_law 207 = .ok (.aload_n 0, 1) := by decide +kernel
theorem dL_law_208 : decode cL_law 208 = .ok (.bipush 40, 2) := by decide +kernel
theorem dL_law_210 : decode cL_law 210 = .ok (.iload_n 3, 1) := by decide +kernel
theorem dL_law_211 : decode cL_law 211 = .ok (.imul, 1) := by decide +kernel
theorem dL_law_212 : decode cL_law 212 = .ok (.iconst 4, 1) := by decide +kernel
theorem dL_law_213 : decode cL_law 213 = .ok (.iadd, 1) := by decide +kernel
theorem dL_law_214 : decode cL_law 214 = .ok (.invokestatic 129, 3) := by decide +kernel
theorem dL_law_217 : decode cL_law 217 = .ok (.ifCond .eq 25, 3) := by decide +kernel
theorem dL_law_220 : decode cL_law 220 = .ok (.aload_n 1, 1) := by decide +kernel
theorem dL_law_221 : decode cL_law 221 = .ok (.aload_n 0, 1) := by decide +kernel
theorem dL_law_222 : decode cL_law 222 = .ok (.bipush 40, 2) := by decide +kernel
theorem dL_law_224 : decode cL_law 224 = .ok (.iload_n 3, 1) := by decide +kernel
theorem dL_law_225 : decode cL_law 225 = .ok (.imul, 1) := by decide +kernel
theorem dL_law_226 : decode cL_law 226 = .ok (.bipush 14, 2) := by decide +kernel
theorem dL_law_228 : decode cL_law 228 = .ok (.iadd, 1) := by decide +kernel
theorem dL_law_229 : decode cL_law 229 = .ok (.invokestatic 129, 3) := by decide +kernel
theorem dL_law_232 : decode cL_law 232 = .ok (.ifCond .eq 10, 3) := by decide +kernel
theorem dL_law_235 : decode cL_law 235 = .ok (.aload_n 1, 1) := by decide +kernel
theorem dL_law_236 : decode cL_law 236 = .ok (.invokestatic 122, 3) := by decide +kernel
theorem dL_law_239 : decode cL_law 239 = .ok (.ifCond .ne 5, 3) := by decide +kernel
theorem dL_law_242 : decode cL_law 242 = .ok (.iconst 0, 1) := by decide +kernel
theorem dL_law_243 : decode cL_law 243 = .ok (.ireturn, 1) := by decide +kernel
theorem dL_law_244 : decode cL_law 244 = .ok (.iinc 3 1, 3) := by decide +kernel
theorem dL_law_247 : decode cL_law 247 = .ok (.goto (-165), 3) := by decide +kernel
theorem dL_law_250 : decode cL_law 250 = .ok (.aload_n 1, 1) := by decide +kernel
theorem dL_law_251 : decode cL_law 251 = .ok (.invokestatic 133, 3) := by decide +kernel
theorem dL_law_254 : decode cL_law 254 = .ok (.ifCond .ne 5, 3) := by decide +kernel
theorem dL_law_257 : decode cL_law 257 = .ok (.iconst 0, 1) := by decide +kernel
theorem dL_law_258 : decode cL_law 258 = .ok (.ireturn, 1) := by decide +kernel
theorem dL_law_259 : decode cL_law 259 = .ok (.aload_n 1, 1) := by decide +kernel
theorem dL_law_260 : decode cL_law 260 = .ok (.bipush 101, 2) := by decide +kernel
theorem dL_law_262 : decode cL_law 262 = .ok (.bipush 50, 2) := by decide +kernel
theorem dL_law_264 : decode cL_law 264 = .ok (.bipush 48, 2) := by decide +kernel
theorem dL_law_266 : decode cL_law 266 = .ok (.bipush 48, 2) := by decide +kernel
theorem dL_law_268 : decode cL_law 268 = .ok (.invokestatic 95, 3) := by decide +kernel
theorem dL_law_271 : decode cL_law 271 = .ok (.aload_n 1, 1) := by decide +kernel
theorem dL_law_272 : decode cL_law 272 = .ok (.bipush 59, 2) := by decide +kernel
theorem dL_law_274 : decode cL_law 274 = .ok (.bipush 103, 2) := by decide +kernel
theorem dL_law_276 : decode cL_law 276 = .ok (.bipush 48, 2) := by decide +kernel
theorem dL_law_278 : decode cL_law 278 = .ok (.bipush 49, 2) := by decide +kernel
theorem dL_law_280 : decode cL_law 280 = .ok (.invokestatic 95, 3) := by decide +kernel
theorem dL_law_283 : decode cL_law 283 = .ok (.aload_n 1, 1) := by decide +kernel
theorem dL_law_284 : decode cL_law 284 = .ok (.bipush 48, 2) := by decide +kernel
theorem dL_law_286 : decode cL_law 286 = .ok (.bipush 59, 2) := by decide +kernel
theorem dL_law_288 : decode cL_law 288 = .ok (.iconst 0, 1) := by decide +kernel
theorem dL_law_289 : decode cL_law 289 = .ok (.iconst 0, 1) := by decide +kernel
theorem dL_law_290 : decode cL_law 290 = .ok (.invokestatic 95, 3) := by decide +kernel
theorem dL_law_293 : decode cL_law 293 = .ok (.aload_n 1, 1) := by decide +kernel
theorem dL_law_294 : decode cL_law 294 = .ok (.iconst 0, 1) := by decide +kernel
theorem dL_law_295 : decode cL_law 295 = .ok (.iconst 0, 1) := by decide +kernel
theorem dL_law_296 : decode cL_law 296 = .ok (.bipush 10, 2) := by decide +kernel
theorem dL_law_298 : decode cL_law 298 = .ok (.iconst 0, 1) := by decide +kernel
theorem dL_law_299 : decode cL_law 299 = .ok (.invokestatic 103, 3) := by decide +kernel
theorem dL_law_302 : decode cL_law 302 = .ok (.aload_n 1, 1) := by decide +kernel
theorem dL_law_303 : decode cL_law 303 = .ok (.iconst 1, 1) := by decide +kernel
theorem dL_law_304 : decode cL_law 304 = .ok (.bipush 10, 2) := by decide +kernel
theorem dL_law_306 : decode cL_law 306 = .ok (.bipush 60, 2) := by decide +kernel
theorem dL_law_308 : decode cL_law 308 = .ok (.bipush 99, 2) := by decide +kernel
theorem dL_law_310 : decode cL_law 310 = .ok (.invokestatic 103, 3) := by decide +kernel
theorem dL_law_313 : decode cL_law 313 = .ok (.aload_n 1, 1) := by decide +kernel
theorem dL_law_314 : decode cL_law 314 = .ok (.invokevirtual 36, 3) := by decide +kernel
theorem dL_law_317 : decode cL_law 317 = .ok (.sipush 200, 3) := by decide +kernel
theorem dL_law_320 : decode cL_law 320 = .ok (.if_icmp .ne 96, 3) := by decide +kernel
theorem dL_law_323 : decode cL_law 323 = .ok (.aload_n 1, 1) := by decide +kernel
theorem dL_law_324 : decode cL_law 324 = .ok (.bipush 9, 2) := by decide +kernel
theorem dL_law_326 : decode cL_law 326 = .ok (.invokevirtual 43, 3) := by decide +kernel
theorem dL_law_329 : decode cL_law 329 = .ok (.ifCond .ne 87, 3) := by decide +kernel
theorem dL_law_332 : decode cL_law 332 = .ok (.aload_n 1, 1) := by decide +kernel
theorem dL_law_333 : decode cL_law 333 = .ok (.iconst 1, 1) := by decide +kernel
theorem dL_law_334 : decode cL_law 334 = .ok (.bipush 40, 2) := by decide +kernel
theorem dL_law_336 : decode cL_law 336 = .ok (.invokevirtual 73, 3) := by decide +kernel
theorem dL_law_339 : decode cL_law 339 = .ok (.iconst 1, 1) := by decide +kernel
theorem dL_law_340 : decode cL_law 340 = .ok (.if_icmp .ne 76, 3) := by decide +kernel
theorem dL_law_343 : decode cL_law 343 = .ok (.aload_n 1, 1) := by decide +kernel
theorem dL_law_344 : decode cL_law 344 = .ok (.bipush 60, 2) := by decide +kernel
theorem dL_law_346 : decode cL_law 346 = .ok (.invokevirtual 70, 3) := by decide +kernel
theorem dL_law_349 : decode cL_law 349 = .ok (.ifCond .ne 67, 3) := by decide +kernel
theorem dL_law_352 : decode cL_law 352 = .ok (.aload_n 1, 1) := by decide +kernel
theorem dL_law_353 : decode cL_law 353 = .ok (.bipush 60, 2) := by decide +kernel
theorem dL_law_355 : decode cL_law 355 = .ok (.invokevirtual 70, 3) := by decide +kernel
theorem dL_law_358 : decode cL_law 358 = .ok (.bipush 57, 2) := by decide +kernel
theorem dL_law_360 : decode cL_law 360 = .ok (.if_icmp .ne 56, 3) := by decide +kernel
theorem dL_law_363 : decode cL_law 363 = .ok (.aload_n 1, 1) := by decide +kernel
theorem dL_law_364 : decode cL_law 364 = .ok (.bipush 60, 2) := by decide +kernel
theorem dL_law_366 : decode cL_law 366 = .ok (.invokevirtual 70, 3) := by decide +kernel
theorem dL_law_369 : decode cL_law 369 = .ok (.bipush 60, 2) := by decide +kernel
theorem dL_law_371 : decode cL_law 371 = .ok (.if_icmp .ne 45, 3) := by decide +kernel
theorem dL_law_374 : decode cL_law 374 = .ok (.aload_n 1, 1) := by decide +kernel
theorem dL_law_375 : decode cL_law 375 = .ok (.iconst 1, 1) := by decide +kernel
theorem dL_law_376 : decode cL_law 376 = .ok (.iconst 0, 1) := by decide +kernel
theorem dL_law_377 : decode cL_law 377 = .ok (.invokevirtual 46, 3) := by decide +kernel
theorem dL_law_380 : decode cL_law 380 = .ok (.sipush 200, 3) := by decide +kernel
theorem dL_law_383 : decode cL_law 383 = .ok (.if_icmp .ne 33, 3) := by decide +kernel
theorem dL_law_386 : decode cL_law 386 = .ok (.aload_n 1, 1) := by decide +kernel
theorem dL_law_387 : decode cL_law 387 = .ok (.iconst 1, 1) := by decide +kernel
theorem dL_law_388 : decode cL_law 388 = .ok (.bipush 8, 2) := by decide +kernel
theorem dL_law_390 : decode cL_law 390 = .ok (.invokevirtual 46, 3) := by decide +kernel
theorem dL_law_393 : decode cL_law 393 = .ok (.iconst 3, 1) := by decide +kernel
theorem dL_law_394 : decode cL_law 394 = .ok (.if_icmp .ne 22, 3) := by decide +kernel
theorem dL_law_397 : decode cL_law 397 = .ok (.aload_n 1, 1) := by decide +kernel
theorem dL_law_398 : decode cL_law 398 = .ok (.iconst 1, 1) := by decide +kernel
theorem dL_law_399 : decode cL_law 399 = .ok (.iconst 1, 1) := by decide +kernel
theorem dL_law_400 : decode cL_law 400 = .ok (.invokevirtual 46, 3) := by decide +kernel
theorem dL_law_403 : decode cL_law 403 = .ok (.ldc 56, 2) := by decide +kernel
theorem dL_law_405 : decode cL_law 405 = .ok (.if_icmp .ne 11, 3) := by decide +kernel
theorem dL_law_408 : decode cL_law 408 = .ok (.aload_n 1, 1) := by decide +kernel
theorem dL_law_409 : decode cL_law 409 = .ok (.invokevirtual 92, 3) := by decide +kernel
theorem dL_law_412 : decode cL_law 412 = .ok (.iconst 3, 1) := by decide +kernel
theorem dL_law_413 : decode cL_law 413 = .ok (.if_icmp .eq 5, 3) := by decide +kernel
theorem dL_law_416 : decode cL_law 416 = .ok (.iconst 0, 1) := by decide +kernel
theorem dL_law_417 : decode cL_law 417 = .ok (.ireturn, 1) := by decide +kernel
theorem dL_law_418 : decode cL_law 418 = .ok (.aload_n 1, 1) := by decide +kernel
theorem dL_law_419 : decode cL_law 419 = .ok (.invokevirtual 17, 3) := by decide +kernel
theorem dL_law_422 : decode cL_law 422 = .ok (.pop, 1) := by decide +kernel
theorem dL_law_423 : decode cL_law 423 = .ok (.aload_n 1, 1) := by decide +kernel
theorem dL_law_424 : decode cL_law 424 = .ok (.invokevirtual 36, 3) := by decide +kernel
theorem dL_law_427 : decode cL_law 427 = .ok (.sipush 600, 3) := by decide +kernel
theorem dL_law_430 : decode cL_law 430 = .ok (.if_icmp .ne 23, 3) := by decide +kernel
theorem dL_law_433 : decode cL_law 433 = .ok (.aload_n 1, 1) := by decide +kernel
theorem dL_law_434 : decode cL_law 434 = .ok (.iconst 0, 1) := by decide +kernel
theorem dL_law_435 : decode cL_law 435 = .ok (.iconst 2, 1) := by decide +kernel
theorem dL_law_436 : decode cL_law 436 = .ok (.invokevirtual 46, 3) := by decide +kernel
theorem dL_law_439 : decode cL_law 439 = .ok (.bipush 30, 2) := by decide +kernel
theorem dL_law_441 : decode cL_law 441 = .ok (.if_icmp .ne 12, 3) := by decide +kernel
theorem dL_law_444 : decode cL_law 444 = .ok (.aload_n 1, 1) := by decide +kernel
theorem dL_law_445 : decode cL_law 445 = .ok (.invokevirtual 92, 3) := by decide +kernel
theorem dL_law_448 : decode cL_law 448 = .ok (.bipush (-2), 2) := by decide +kernel
theorem dL_law_450 : decode cL_law 450 = .ok (.if_icmp .eq 5, 3) := by decide +kernel
theorem dL_law_453 : decode cL_law 453 = .ok (.iconst 0, 1) := by decide +kernel
theorem dL_law_454 : decode cL_law 454 = .ok (.ireturn, 1) := by decide +kernel
theorem dL_law_455 : decode cL_law 455 = .ok (.iconst 0, 1) := by decide +kernel
theorem dL_law_456 : decode cL_law 456 = .ok (.istore_n 3, 1) := by decide +kernel
theorem dL_law_457 : decode cL_law 457 = .ok (.iload_n 3, 1) := by decide +kernel
theorem dL_law_458 : decode cL_law 458 = .ok (.sipush 166, 3) := by decide +kernel
theorem dL_law_461 : decode cL_law 461 = .ok (.if_icmp .ge 20, 3) := by decide +kernel
theorem dL_law_464 : decode cL_law 464 = .ok (.aload_n 1, 1) := by decide +kernel
theorem dL_law_465 : decode cL_law 465 = .ok (.bipush 60, 2) := by decide +kernel
theorem dL_law_467 : decode cL_law 467 = .ok (.invokevirtual 70, 3) := by decide +kernel
theorem dL_law_470 : decode cL_law 470 = .ok (.ifCond .eq 5, 3) := by decide +kernel
theorem dL_law_473 : decode cL_law 473 = .ok (.iconst 0, 1) := by decide +kernel
theorem dL_law_474 : decode cL_law 474 = .ok (.ireturn, 1) := by decide +kernel
theorem dL_law_475 : decode cL_law 475 = .ok (.iinc 3 1, 3) := by decide +kernel
theorem dL_law_478 : decode cL_law 478 = .ok (.goto (-21), 3) := by decide +kernel
theorem dL_law_481 : decode cL_law 481 = .ok (.aload_n 1, 1) := by decide +kernel
theorem dL_law_482 : decode cL_law 482 = .ok (.bipush 40, 2) := by decide +kernel
theorem dL_law_484 : decode cL_law 484 = .ok (.invokevirtual 70, 3) := by decide +kernel
theorem dL_law_487 : decode cL_law 487 = .ok (.bipush (-2), 2) := by decide +kernel
theorem dL_law_489 : decode cL_law 489 = .ok (.if_icmp .ne 47, 3) := by decide +kernel
theorem dL_law_492 : decode cL_law 492 = .ok (.aload_n 1, 1) := by decide +kernel
theorem dL_law_493 : decode cL_law 493 = .ok (.bipush 39, 2) := by decide +kernel
theorem dL_law_495 : decode cL_law 495 = .ok (.invokevirtual 70, 3) := by decide +kernel
theorem dL_law_498 : decode cL_law 498 = .ok (.ifCond .ne 38, 3) := by decide +kernel
theorem dL_law_501 : decode cL_law 501 = .ok (.aload_n 1, 1) := by decide +kernel
theorem dL_law_502 : decode cL_law 502 = .ok (.iconst 1, 1) := by decide +kernel
theorem dL_law_503 : decode cL_law 503 = .ok (.invokevirtual 70, 3) := by decide +kernel
theorem dL_law_506 : decode cL_law 506 = .ok (.bipush (-2), 2) := by decide +kernel
theorem dL_law_508 : decode cL_law 508 = .ok (.if_icmp .ne 28, 3) := by decide +kernel
theorem dL_law_511 : decode cL_law 511 = .ok (.aload_n 1, 1) := by decide +kernel
theorem dL_law_512 : decode cL_law 512 = .ok (.bipush 6, 2) := by decide +kernel
theorem dL_law_514 : decode cL_law 514 = .ok (.invokevirtual 43, 3) := by decide +kernel
theorem dL_law_517 : decode cL_law 517 = .ok (.sipush 9999, 3) := by decide +kernel
theorem dL_law_520 : decode cL_law 520 = .ok (.if_icmp .ne 16, 3) := by decide +kernel
theorem dL_law_523 : decode cL_law 523 = .ok (.aload_n 1, 1) := by decide +kernel
theorem dL_law_524 : decode cL_law 524 = .ok (.iconst 0, 1) := by decide +kernel
theorem dL_law_525 : decode cL_law 525 = .ok (.iconst 2, 1) := by decide +kernel
theorem dL_law_526 : decode cL_law 526 = .ok (.iconst 3, 1) := by decide +kernel
theorem dL_law_527 : decode cL_law 527 = .ok (.invokevirtual 109, 3) := by decide +kernel
theorem dL_law_530 : decode cL_law 530 = .ok (.sipush 9999, 3) := by decide +kernel
theorem dL_law_533 : decode cL_law 533 = .ok (.if_icmp .eq 5, 3) := by decide +kernel
theorem dL_law_536 : decode cL_law 536 = .ok (.iconst 0, 1) := by decide +kernel
theorem dL_law_537 : decode cL_law 537 = .ok (.ireturn, 1) := by decide +kernel
theorem dL_law_538 : decode cL_law 538 = .ok (.iconst 0, 1) := by decide +kernel
theorem dL_law_539 : decode cL_law 539 = .ok (.istore_n 3, 1) := by decide +kernel
theorem dL_law_540 : decode cL_law 540 = .ok (.iload_n 3, 1) := by decide +kernel
theorem dL_law_541 : decode cL_law 541 = .ok (.sipush 200, 3) := by decide +kernel
theorem dL_law_544 : decode cL_law 544 = .ok (.if_icmp .ge 23, 3) := by decide +kernel
theorem dL_law_547 : decode cL_law 547 = .ok (.aload_n 1, 1) := by decide +kernel
theorem dL_law_548 : decode cL_law 548 = .ok (.bipush 101, 2) := by decide +kernel
theorem dL_law_550 : decode cL_law 550 = .ok (.invokevirtual 9, 3) := by decide +kernel
theorem dL_law_553 : decode cL_law 553 = .ok (.iload_n 3, 1) := by decide +kernel
theorem dL_law_554 : decode cL_law 554 = .ok (.iconst 1, 1) := by decide +kernel
theorem dL_law_555 : decode cL_law 555 = .ok (.iadd, 1) := by decide +kernel
theorem dL_law_556 : decode cL_law 556 = .ok (.if_icmp .eq 5, 3) := by decide +kernel
theorem dL_law_559 : decode cL_law 559 = .ok (.iconst 0, 1) := by decide +kernel
theorem dL_law_560 : decode cL_law 560 = .ok (.ireturn, 1) := by decide +kernel
theorem dL_law_561 : decode cL_law 561 = .ok (.iinc 3 1, 3) := by decide +kernel
theorem dL_law_564 : decode cL_law 564 = .ok (.goto (-24), 3) := by decide +kernel
theorem dL_law_567 : decode cL_law 567 = .ok (.aload_n 1, 1) := by decide +kernel
theorem dL_law_568 : decode cL_law 568 = .ok (.bipush 101, 2) := by decide +kernel
theorem dL_law_570 : decode cL_law 570 = .ok (.invokevirtual 9, 3) := by decide +kernel
theorem dL_law_573 : decode cL_law 573 = .ok (.bipush (-3), 2) := by decide +kernel
theorem dL_law_575 : decode cL_law 575 = .ok (.if_icmp .ne 24, 3) := by decide +kernel
theorem dL_law_578 : decode cL_law 578 = .ok (.aload_n 1, 1) := by decide +kernel
theorem dL_law_579 : decode cL_law 579 = .ok (.invokevirtual 33, 3) := by decide +kernel
theorem dL_law_582 : decode cL_law 582 = .ok (.ifCond .ne 17, 3) := by decide +kernel
theorem dL_law_585 : decode cL_law 585 = .ok (.aload_n 1, 1) := by decide +kernel
theorem dL_law_586 : decode cL_law 586 = .ok (.invokevirtual 17, 3) := by decide +kernel
theorem dL_law_589 : decode cL_law 589 = .ok (.sipush 200, 3) := by decide +kernel
theorem dL_law_592 : decode cL_law 592 = .ok (.if_icmp .ne 7, 3) := by decide +kernel
theorem dL_law_595 : decode cL_law 595 = .ok (.iconst 1, 1) := by decide +kernel
theorem dL_law_596 : decode cL_law 596 = .ok (.goto 4, 3) := by decide +kernel
theorem dL_law_599 : decode cL_law 599 = .ok (.iconst 0, 1) := by decide +kernel
theorem dL_law_600 : decode cL_law 600 = .ok (.ireturn, 1) := by decide +kernel
