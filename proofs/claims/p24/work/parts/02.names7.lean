set_option maxRecDepth 20000 in
theorem ggX7_init_X6_init : GoodIn wsX7_init wsX6_init := goodIn_r _ [26, 27, 2, 3, 28, 29, 122, 123, 124] (by decide +kernel) (by decide +kernel)
set_option maxRecDepth 20000 in
theorem gX7_init_X6_init_n9 : GoodIn wsX7_init (wsX6_init) := ggX7_init_X6_init
set_option maxRecDepth 20000 in
theorem ggX7_init_X2_init : GoodIn wsX7_init wsX2_init := goodIn_r _ [31, 32, 2, 3, 33, 34, 35, 36, 37, 38, 39, 40, 41, 149, 150, 151, 152, 153, 154, 155, 156, 157, 158, 159, 160, 161, 135, 136, 137] (by decide +kernel) (by decide +kernel)
set_option maxRecDepth 20000 in
theorem gX7_init_X2_init_n18 : GoodIn wsX7_init (wsX2_init) := ggX7_init_X2_init
set_option maxRecDepth 20000 in
theorem ggX7_init_X1_init : GoodIn wsX7_init wsX1_init := goodIn_r _ [44, 45, 2, 3, 46, 47, 48, 49, 50, 51, 52, 53, 54, 55, 56, 14, 57, 58, 59, 60, 61, 62, 63, 64, 65, 66, 67, 68, 69, 162, 163, 164, 138, 139, 140, 141, 142, 143, 144] (by decide +kernel) (by decide +kernel)
set_option maxRecDepth 20000 in
theorem gX7_init_X1_init : GoodIn wsX7_init (wsX1_init) := ggX7_init_X1_init
set_option maxRecDepth 20000 in
theorem ggX7_init_X5_init : GoodIn wsX7_init wsX5_init := goodIn_r _ [71, 72, 2, 3, 73, 9, 10, 74, 75, 76, 77, 78, 79, 30, 31, 32, 33, 34, 35, 36, 37, 38, 39, 40, 41, 80, 81, 82, 83, 84, 85, 135, 136, 137, 145, 146, 147, 148, 165, 166, 167, 149, 150, 151, 152, 153, 154, 155, 156, 157, 158, 159, 160, 161] (by decide +kernel) (by decide +kernel)
set_option maxRecDepth 20000 in
theorem gX7_init_X5_init_n35 : GoodIn wsX7_init (wsX5_init) := ggX7_init_X5_init
set_option maxRecDepth 20000 in
theorem ggX7_init_X5_begin : GoodIn wsX7_init wsX5_begin := goodIn_r _ [89, 74, 78, 90, 79, 91, 92, 93, 94, 10, 95, 36, 96, 37, 97, 38, 98, 99, 100, 35, 101, 102, 103, 104, 105, 106, 107, 108, 109, 110, 111, 112, 113, 114, 115, 116, 117, 118, 119, 120, 121, 145, 146, 147, 148, 165, 166, 167, 135, 136, 137, 138, 139, 140, 141, 142, 143, 144, 162, 163, 164, 149, 150, 151, 152, 153, 154, 155, 156, 157, 158, 159, 160, 161] (by decide +kernel) (by decide +kernel)
set_option maxRecDepth 20000 in
theorem gX7_init_X5_begin : GoodIn wsX7_init (wsV RX7 52 RX5 yX5_begin wsX5_begin) := goodIn_app (goodIn_of _ (by decide +kernel)) ggX7_init_X5_begin
theorem dX7_init_0 : decode cX7_init 0 = .ok (.aload_n 0, 1) := by decide +kernel
theorem dX7_init_1 : decode cX7_init 1 = .ok (.invokespecial 1, 3) := by decide +kernel
theorem dX7_init_4 : decode cX7_init 4 = .ok (.aload_n 0, 1) := by decide +kernel
theorem dX7_init_5 : decode cX7_init 5 = .ok (.new 7, 3) := by decide +kernel
theorem dX7_init_8 : decode cX7_init 8 = .ok (.dup, 1) := by decide +kernel
theorem dX7_init_9 : decode cX7_init 9 = .ok (.invokespecial 9, 3) := by decide +kernel
theorem dX7_init_12 : decode cX7_init 12 = .ok (.putfield 10, 3) := by decide +kernel
theorem dX7_init_15 : decode cX7_init 15 = .ok (.aload_n 0, 1) := by decide +kernel
theorem dX7_init_16 : decode cX7_init 16 = .ok (.new 16, 3) := by decide +kernel
theorem dX7_init_19 : decode cX7_init 19 = .ok (.dup, 1) := by decide +kernel
theorem dX7_init_20 : decode cX7_init 20 = .ok (.invokespecial 18, 3) := by decide +kernel
theorem dX7_init_23 : decode cX7_init 23 = .ok (.putfield 19, 3) := by decide +kernel
theorem dX7_init_26 : decode cX7_init 26 = .ok (.aload_n 0, 1) := by decide +kernel
theorem dX7_init_27 : decode cX7_init 27 = .ok (.new 23, 3) := by decide +kernel
theorem dX7_init_30 : decode cX7_init 30 = .ok (.dup, 1) := by decide +kernel
theorem dX7_init_31 : decode cX7_init 31 = .ok (.invokespecial 25, 3) := by decide +kernel
theorem dX7_init_34 : decode cX7_init 34 = .ok (.putfield 26, 3) := by decide +kernel
theorem dX7_init_37 : decode cX7_init 37 = .ok (.aload_n 0, 1) := by decide +kernel
theorem dX7_init_38 : decode cX7_init 38 = .ok (.new 23, 3) := by decide +kernel
theorem dX7_init_41 : decode cX7_init 41 = .ok (.dup, 1) := by decide +kernel
theorem dX7_init_42 : decode cX7_init 42 = .ok (.invokespecial 25, 3) := by decide +kernel
theorem dX7_init_45 : decode cX7_init 45 = .ok (.putfield 30, 3) := by decide +kernel
theorem dX7_init_48 : decode cX7_init 48 = .ok (.aload_n 0, 1) := by decide +kernel
theorem dX7_init_49 : decode cX7_init 49 = .ok (.new 33, 3) := by decide +kernel
theorem dX7_init_52 : decode cX7_init 52 = .ok (.dup, 1) := by decide +kernel
theorem dX7_init_53 : decode cX7_init 53 = .ok (.invokespecial 35, 3) := by decide +kernel
theorem dX7_init_56 : decode cX7_init 56 = .ok (.putfield 36, 3) := by decide +kernel
theorem dX7_init_59 : decode cX7_init 59 = .ok (.aload_n 0, 1) := by decide +kernel
theorem dX7_init_60 : decode cX7_init 60 = .ok (.new 33, 3) := by decide +kernel
theorem dX7_init_63 : decode cX7_init 63 = .ok (.dup, 1) := by decide +kernel
theorem dX7_init_64 : decode cX7_init 64 = .ok (.invokespecial 35, 3) := by decide +kernel
theorem dX7_init_67 : decode cX7_init 67 = .ok (.putfield 40, 3) := by decide +kernel
theorem dX7_init_70 : decode cX7_init 70 = .ok (.aload_n 0, 1) := by decide +kernel
theorem dX7_init_71 : decode cX7_init 71 = .ok (.new 33, 3) := by decide +kernel
theorem dX7_init_74 : decode cX7_init 74 = .ok (.dup, 1) := by decide +kernel
theorem dX7_init_75 : decode cX7_init 75 = .ok (.invokespecial 35, 3) := by decide +kernel
theorem dX7_init_78 : decode cX7_init 78 = .ok (.putfield 43, 3) := by decide +kernel
theorem dX7_init_81 : decode cX7_init 81 = .ok (.aload_n 0, 1) := by decide +kernel
theorem dX7_init_82 : decode cX7_init 82 = .ok (.new 33, 3) := by decide +kernel
theorem dX7_init_85 : decode cX7_init 85 = .ok (.dup, 1) := by decide +kernel
theorem dX7_init_86 : decode cX7_init 86 = .ok (.invokespecial 35, 3) := by decide +kernel
theorem dX7_init_89 : decode cX7_init 89 = .ok (.putfield 46, 3) := by decide +kernel
theorem dX7_init_92 : decode cX7_init 92 = .ok (.aload_n 0, 1) := by decide +kernel
theorem dX7_init_93 : decode cX7_init 93 = .ok (.new 33, 3) := by decide +kernel
theorem dX7_init_96 : decode cX7_init 96 = .ok (.dup, 1) := by decide +kernel
theorem dX7_init_97 : decode cX7_init 97 = .ok (.invokespecial 35, 3) := by decide +kernel
theorem dX7_init_100 : decode cX7_init 100 = .ok (.putfield 49, 3) := by decide +kernel
theorem dX7_init_103 : decode cX7_init 103 = .ok (.aload_n 0, 1) := by decide +kernel
theorem dX7_init_104 : decode cX7_init 104 = .ok (.getfield 36, 3) := by decide +kernel
theorem dX7_init_107 : decode cX7_init 107 = .ok (.aload_n 0, 1) := by decide +kernel
theorem dX7_init_108 : decode cX7_init 108 = .ok (.getfield 26, 3) := by decide +kernel
theorem dX7_init_111 : decode cX7_init 111 = .ok (.invokevirtual 52, 3) := by decide +kernel
theorem dX7_init_114 : decode cX7_init 114 = .ok (.return_, 1) := by decide +kernel
set_option maxRecDepth 20000 in
theorem ggX7_write_X7_isWithin : GoodIn wsX7_write wsX7_isWithin := goodIn_r _ [6] (by decide +kernel) (by decide +kernel)
set_option maxRecDepth 20000 in
theorem gX7_write_X7_isWithin : GoodIn wsX7_write (va_wsS RX7 56 yX7_isWithin wsX7_isWithin) := goodIn_app (goodIn_of _ (by decide +kernel)) ggX7_write_X7_isWithin
set_option maxRecDepth 20000 in
theorem ggX7_write_X6_isFull : GoodIn wsX7_write wsX6_isFull := goodIn_r _ [11, 12, 28, 29, 30] (by decide +kernel) (by decide +kernel)
set_option maxRecDepth 20000 in
theorem gX7_write_X6_isFull : GoodIn wsX7_write (wsV RX7 60 RX6 yX6_isFull wsX6_isFull) := goodIn_app (goodIn_of _ (by decide +kernel)) ggX7_write_X6_isFull
set_option maxRecDepth 20000 in
theorem ggX7_write_X6_append : GoodIn wsX7_write wsX6_append := goodIn_r _ [16, 12, 17, 28, 29, 30] (by decide +kernel) (by decide +kernel)
set_option maxRecDepth 20000 in
theorem gX7_write_X6_append : GoodIn wsX7_write (wsV RX7 64 RX6 yX6_append wsX6_append) := goodIn_app (goodIn_of _ (by decide +kernel)) ggX7_write_X6_append
theorem dX7_write_0 : decode cX7_write 0 = .ok (.iload_n 1, 1) := by decide +kernel
theorem dX7_write_1 : decode cX7_write 1 = .ok (.bipush 32, 2) := by decide +kernel
theorem dX7_write_3 : decode cX7_write 3 = .ok (.bipush 126, 2) := by decide +kernel
theorem dX7_write_5 : decode cX7_write 5 = .ok (.invokestatic 56, 3) := by decide +kernel
theorem dX7_write_8 : decode cX7_write 8 = .ok (.ifCond .ne 5, 3) := by decide +kernel
theorem dX7_write_11 : decode cX7_write 11 = .ok (.iconst (-1), 1) := by decide +kernel
theorem dX7_write_12 : decode cX7_write 12 = .ok (.ireturn, 1) := by decide +kernel
theorem dX7_write_13 : decode cX7_write 13 = .ok (.aload_n 0, 1) := by decide +kernel
theorem dX7_write_14 : decode cX7_write 14 = .ok (.getfield 10, 3) := by decide +kernel
theorem dX7_write_17 : decode cX7_write 17 = .ok (.invokevirtual 60, 3) := by decide +kernel
theorem dX7_write_20 : decode cX7_write 20 = .ok (.ifCond .eq 6, 3) := by decide +kernel
theorem dX7_write_23 : decode cX7_write 23 = .ok (.bipush (-3), 2) := by decide +kernel
theorem dX7_write_25 : decode cX7_write 25 = .ok (.ireturn, 1) := by decide +kernel
theorem dX7_write_26 : decode cX7_write 26 = .ok (.aload_n 0, 1) := by decide +kernel
theorem dX7_write_27 : decode cX7_write 27 = .ok (.getfield 10, 3) := by decide +kernel
theorem dX7_write_30 : decode cX7_write 30 = .ok (.iload_n 1, 1) := by decide +kernel
theorem dX7_write_31 : decode cX7_write 31 = .ok (.i2c, 1) := by decide +kernel
theorem dX7_write_32 : decode cX7_write 32 = .ok (.invokevirtual 64, 3) := by decide +kernel
theorem dX7_write_35 : decode cX7_write 35 = .ok (.aload_n 0, 1) := by decide +kernel
theorem dX7_write_36 : decode cX7_write 36 = .ok (.getfield 10, 3) := by decide +kernel
theorem dX7_write_39 : decode cX7_write 39 = .ok (.getfield 68, 3) := by decide +kernel
theorem dX7_write_42 : decode cX7_write 42 = .ok (.ireturn, 1) := by decide +kernel
theorem dX7_wipe_0 : decode cX7_wipe 0 = .ok (.aload_n 0, 1) := by decide +kernel
theorem dX7_wipe_1 : decode cX7_wipe 1 = .ok (.getfield 10, 3) := by decide +kernel
theorem dX7_wipe_4 : decode cX7_wipe 4 = .ok (.getfield 68, 3) := by decide +kernel
theorem dX7_wipe_7 : decode cX7_wipe 7 = .ok (.istore_n 1, 1) := by decide +kernel
theorem dX7_wipe_8 : decode cX7_wipe 8 = .ok (.aload_n 0, 1) := by decide +kernel
theorem dX7_wipe_9 : decode cX7_wipe 9 = .ok (.getfield 10, 3) := by decide +kernel
theorem dX7_wipe_12 : decode cX7_wipe 12 = .ok (.iconst 0, 1) := by decide +kernel
theorem dX7_wipe_13 : decode cX7_wipe 13 = .ok (.putfield 68, 3) := by decide +kernel
theorem dX7_wipe_16 : decode cX7_wipe 16 = .ok (.iload_n 1, 1) := by decide +kernel
theorem dX7_wipe_17 : decode cX7_wipe 17 = .ok (.ireturn, 1) := by decide +kernel
set_option maxRecDepth 20000 in
theorem ggX7_fault_X6_readInto : GoodIn wsX7_fault wsX6_readInto := goodIn_r _ [7, 8, 9, 10, 11, 12, 13, 14, 15, 16, 17, 18, 19, 20, 21, 22, 23, 24, 25, 26, 27, 28, 29, 30, 31, 32, 6, 33, 34, 35, 36, 37, 38, 39, 40, 41, 42, 43, 44, 45, 46, 47, 48, 49, 50, 51, 52, 53, 54, 55, 56, 57, 58, 59, 60, 61, 62, 63, 64, 65, 66, 67, 68, 69, 70, 71, 72, 73, 74, 75, 76, 87, 88, 89, 90, 91, 92, 93, 94, 95, 96, 97, 98, 99] (by decide +kernel) (by decide +kernel)
set_option maxRecDepth 20000 in
theorem gX7_fault_X6_readInto : GoodIn wsX7_fault (wsV RX7 72 RX6 yX6_readInto wsX6_readInto) := goodIn_app (goodIn_of _ (by decide +kernel)) ggX7_fault_X6_readInto
theorem dX7_fault_0 : decode cX7_fault 0 = .ok (.aload_n 0, 1) := by decide +kernel
theorem dX7_fault_1 : decode cX7_fault 1 = .ok (.getfield 10, 3) := by decide +kernel
theorem dX7_fault_4 : decode cX7_fault 4 = .ok (.aload_n 0, 1) := by decide +kernel
theorem dX7_fault_5 : decode cX7_fault 5 = .ok (.getfield 30, 3) := by decide +kernel
theorem dX7_fault_8 : decode cX7_fault 8 = .ok (.invokevirtual 72, 3) := by decide +kernel
theorem dX7_fault_11 : decode cX7_fault 11 = .ok (.ireturn, 1) := by decide +kernel
set_option maxRecDepth 20000 in
theorem ggX7_lay_X6_readInto : GoodIn wsX7_lay wsX6_readInto := goodIn_r _ [11, 12, 13, 14, 15, 16, 17, 18, 19, 20, 21, 22, 23, 24, 25, 26, 27, 28, 29, 30, 31, 32, 33, 34, 35, 36, 10, 37, 38, 39, 40, 41, 42, 43, 44, 45, 46, 47, 48, 49, 50, 51, 52, 53, 54, 55, 56, 57, 58, 59, 60, 61, 62, 63, 64, 65, 66, 67, 68, 69, 70, 71, 72, 73, 74, 75, 76, 77, 78, 79, 80, 148, 149, 150, 141, 142, 143, 144, 145, 146, 147, 151, 152, 153] (by decide +kernel) (by decide +kernel)
set_option maxRecDepth 20000 in
theorem gX7_lay_X6_readInto : GoodIn wsX7_lay (wsV RX7 72 RX6 yX6_readInto wsX6_readInto) := goodIn_app (goodIn_of _ (by decide +kernel)) ggX7_lay_X6_readInto
set_option maxRecDepth 20000 in
theorem ggX7_lay_X1_holdsBoth : GoodIn wsX7_lay wsX1_holdsBoth := goodIn_r _ [84, 24, 85, 19, 25, 20, 141, 142, 143, 144, 145, 146, 147, 151, 152, 153] (by decide +kernel) (by decide +kernel)
set_option maxRecDepth 20000 in
theorem gX7_lay_X1_holdsBoth : GoodIn wsX7_lay (wsV RX7 76 RX1 yX1_holdsBoth wsX1_holdsBoth) := goodIn_app (goodIn_of _ (by decide +kernel)) ggX7_lay_X1_holdsBoth
set_option maxRecDepth 20000 in
theorem ggX7_lay_X5_begin : GoodIn wsX7_lay wsX5_begin := goodIn_r _ [90, 91, 92, 93, 94, 95, 96, 97, 98, 99, 100, 101, 102, 103, 104, 105, 106, 107, 108, 109, 110, 111, 112, 113, 114, 115, 116, 117, 118, 119, 120, 121, 122, 123, 124, 125, 126, 127, 128, 129, 130, 154, 155, 156, 157, 158, 159, 160, 161, 162, 163, 141, 142, 143, 144, 145, 146, 147, 151, 152, 153, 164, 165, 166, 167, 168, 169, 170, 171, 172, 173, 174, 175, 176] (by decide +kernel) (by decide +kernel)
set_option maxRecDepth 20000 in
theorem gX7_lay_X5_begin : GoodIn wsX7_lay (wsV RX7 52 RX5 yX5_begin wsX5_begin) := goodIn_app (goodIn_of _ (by decide +kernel)) ggX7_lay_X5_begin
theorem dX7_lay_0 : decode cX7_lay 0 = .ok (.aload_n 0, 1) := by decide +kernel
theorem dX7_lay_1 : decode cX7_lay 1 = .ok (.getfield 10, 3) := by decide +kernel
theorem dX7_lay_4 : decode cX7_lay 4 = .ok (.aload_n 0, 1) := by decide +kernel
theorem dX7_lay_5 : decode cX7_lay 5 = .ok (.getfield 30, 3) := by decide +kernel
theorem dX7_lay_8 : decode cX7_lay 8 = .ok (.invokevirtual 72, 3) := by decide +kernel
theorem dX7_lay_11 : decode cX7_lay 11 = .ok (.bipush (-4), 2) := by decide +kernel
theorem dX7_lay_13 : decode cX7_lay 13 = .ok (.if_icmp .ne 13, 3) := by decide +kernel
theorem dX7_lay_16 : decode cX7_lay 16 = .ok (.aload_n 0, 1) := by decide +kernel
theorem dX7_lay_17 : decode cX7_lay 17 = .ok (.getfield 30, 3) := by decide +kernel
theorem dX7_lay_20 : decode cX7_lay 20 = .ok (.invokevirtual 76, 3) := by decide +kernel
theorem dX7_lay_23 : decode cX7_lay 23 = .ok (.ifCond .ne 6, 3) := by decide +kernel
theorem dX7_lay_26 : decode cX7_lay 26 = .ok (.bipush (-2), 2) := by decide +kernel
theorem dX7_lay_28 : decode cX7_lay 28 = .ok (.ireturn, 1) := by decide +kernel
theorem dX7_lay_29 : decode cX7_lay 29 = .ok (.aload_n 0, 1) := by decide +kernel
theorem dX7_lay_30 : decode cX7_lay 30 = .ok (.getfield 30, 3) := by decide +kernel
theorem dX7_lay_33 : decode cX7_lay 33 = .ok (.astore_n 1, 1) := by decide +kernel
theorem dX7_lay_34 : decode cX7_lay 34 = .ok (.aload_n 0, 1) := by decide +kernel
theorem dX7_lay_35 : decode cX7_lay 35 = .ok (.aload_n 0, 1) := by decide +kernel
theorem dX7_lay_36 : decode cX7_lay 36 = .ok (.getfield 26, 3) := by decide +kernel
theorem dX7_lay_39 : decode cX7_lay 39 = .ok (.putfield 30, 3) := by decide +kernel
theorem dX7_lay_42 : decode cX7_lay 42 = .ok (.aload_n 0, 1) := by decide +kernel
theorem dX7_lay_43 : decode cX7_lay 43 = .ok (.aload_n 1, 1) := by decide +kernel
theorem dX7_lay_44 : decode cX7_lay 44 = .ok (.putfield 26, 3) := by decide +kernel
theorem dX7_lay_47 : decode cX7_lay 47 = .ok (.aload_n 0, 1) := by decide +kernel
theorem dX7_lay_48 : decode cX7_lay 48 = .ok (.getfield 36, 3) := by decide +kernel
theorem dX7_lay_51 : decode cX7_lay 51 = .ok (.aload_n 0, 1) := by decide +kernel
theorem dX7_lay_52 : decode cX7_lay 52 = .ok (.getfield 26, 3) := by decide +kernel
theorem dX7_lay_55 : decode cX7_lay 55 = .ok (.invokevirtual 52, 3) := by decide +kernel
theorem dX7_lay_58 : decode cX7_lay 58 = .ok (.aload_n 0, 1) := by decide +kernel
theorem dX7_lay_59 : decode cX7_lay 59 = .ok (.iconst 0, 1) := by decide +kernel
theorem dX7_lay_60 : decode cX7_lay 60 = .ok (.putfield 79, 3) := by decide +kernel
theorem dX7_lay_63 : decode cX7_lay 63 = .ok (.aload_n 0, 1) := by decide +kernel
theorem dX7_lay_64 : decode cX7_lay 64 = .ok (.getfield 26, 3) := by decide +kernel
theorem dX7_lay_67 : decode cX7_lay 67 = .ok (.getfield 82, 3) := by decide +kernel
theorem dX7_lay_70 : decode cX7_lay 70 = .ok (.ireturn, 1) := by decide +kernel
set_option maxRecDepth 20000 in
theorem ggX7_command_X7_isCrane : GoodIn wsX7_command wsX7_isCrane := goodIn_r _ [6] (by decide +kernel) (by decide +kernel)
set_option maxRecDepth 20000 in
theorem gX7_command_X7_isCrane : GoodIn wsX7_command (va_wsS RX7 85 yX7_isCrane wsX7_isCrane) := goodIn_app (goodIn_of _ (by decide +kernel)) ggX7_command_X7_isCrane
set_option maxRecDepth 20000 in
theorem ggX7_command_X7_isSpeed : GoodIn wsX7_command wsX7_isSpeed := goodIn_r _ [9, 10, 11, 5, 12] (by decide +kernel) (by decide +kernel)
set_option maxRecDepth 20000 in
theorem gX7_command_X7_isSpeed : GoodIn wsX7_command (va_wsS RX7 89 yX7_isSpeed wsX7_isSpeed) := goodIn_app (goodIn_of _ (by decide +kernel)) ggX7_command_X7_isSpeed
set_option maxRecDepth 20000 in
theorem ggX7_command_X7_keepForUndo : GoodIn wsX7_command wsX7_keepForUndo := goodIn_r _ [16, 17, 18, 19, 20, 1, 21, 22, 23, 24, 25, 26, 27, 28, 29, 30, 31, 32, 33, 34, 35, 36, 37, 38, 39, 40, 41, 42, 43, 44, 45, 46, 47, 48, 49, 50, 51, 52, 53, 54, 55, 56, 57, 58, 59, 60, 61, 62, 63, 64, 65, 66, 67, 68, 69, 70, 71, 72, 73, 74, 75, 76, 77, 78, 79, 80, 109, 110, 111, 112, 113, 114, 115, 116, 117, 118, 119, 120, 121, 122, 123, 124, 125, 126, 127, 128, 129, 130, 131, 132, 133, 134, 135, 136, 137, 138, 139, 140, 141] (by decide +kernel) (by decide +kernel)
set_option maxRecDepth 20000 in
theorem gX7_command_X7_keepForUndo : GoodIn wsX7_command (wsV RX7 92 RX7 yX7_keepForUndo wsX7_keepForUndo) := goodIn_app (goodIn_of _ (by decide +kernel)) ggX7_command_X7_keepForUndo
set_option maxRecDepth 20000 in
theorem ggX7_command_X2_tellAtOnce : GoodIn wsX7_command wsX2_tellAtOnce := goodIn_r _ [84, 40, 41, 85, 86, 87, 38, 88, 89, 90, 91, 92, 42, 93, 94, 95, 46, 96, 54, 97, 98, 99, 100, 56, 57, 58, 59, 101, 102, 103, 104, 105, 106, 107, 108, 123, 124, 125, 126, 127, 128, 129, 130, 131, 132, 133, 134, 135, 136, 137, 138] (by decide +kernel) (by decide +kernel)
set_option maxRecDepth 20000 in
theorem gX7_command_X2_tellAtOnce : GoodIn wsX7_command (wsV RX7 98 RX2 yX2_tellAtOnce wsX2_tellAtOnce) := goodIn_app (goodIn_of _ (by decide +kernel)) ggX7_command_X2_tellAtOnce
theorem dX7_command_0 : decode cX7_command 0 = .ok (.iload_n 1, 1) := by decide +kernel
theorem dX7_command_1 : decode cX7_command 1 = .ok (.invokestatic 85, 3) := by decide +kernel
theorem dX7_command_4 : decode cX7_command 4 = .ok (.ifCond .eq 10, 3) := by decide +kernel
theorem dX7_command_7 : decode cX7_command 7 = .ok (.iload_n 2, 1) := by decide +kernel
theorem dX7_command_8 : decode cX7_command 8 = .ok (.invokestatic 89, 3) := by decide +kernel
theorem dX7_command_11 : decode cX7_command 11 = .ok (.ifCond .ne 5, 3) := by decide +kernel
theorem dX7_command_14 : decode cX7_command 14 = .ok (.iconst (-1), 1) := by decide +kernel
theorem dX7_command_15 : decode cX7_command 15 = .ok (.ireturn, 1) := by decide +kernel
theorem dX7_command_16 : decode cX7_command 16 = .ok (.aload_n 0, 1) := by decide +kernel
theorem dX7_command_17 : decode cX7_command 17 = .ok (.invokevirtual 92, 3) := by decide +kernel
theorem dX7_command_20 : decode cX7_command 20 = .ok (.aload_n 0, 1) := by decide +kernel
theorem dX7_command_21 : decode cX7_command 21 = .ok (.getfield 36, 3) := by decide +kernel
theorem dX7_command_24 : decode cX7_command 24 = .ok (.getfield 95, 3) := by decide +kernel
theorem dX7_command_27 : decode cX7_command 27 = .ok (.iload_n 1, 1) := by decide +kernel
theorem dX7_command_28 : decode cX7_command 28 = .ok (.iload_n 2, 1) := by decide +kernel
theorem dX7_command_29 : decode cX7_command 29 = .ok (.invokevirtual 98, 3) := by decide +kernel
theorem dX7_command_32 : decode cX7_command 32 = .ok (.ireturn, 1) := by decide +kernel
set_option maxRecDepth 20000 in
theorem ggX7_shape_X7_isCrane : GoodIn wsX7_shape wsX7_isCrane := goodIn_r _ [6] (by decide +kernel) (by decide +kernel)
set_option maxRecDepth 20000 in
theorem gX7_shape_X7_isCrane : GoodIn wsX7_shape (va_wsS RX7 85 yX7_isCrane wsX7_isCrane) := goodIn_app (goodIn_of _ (by decide +kernel)) ggX7_shape_X7_isCrane
set_option maxRecDepth 20000 in
theorem ggX7_shape_X7_isSpeed : GoodIn wsX7_shape wsX7_isSpeed := goodIn_r _ [9, 10, 11, 5, 12] (by decide +kernel) (by decide +kernel)
set_option maxRecDepth 20000 in
theorem gX7_shape_X7_isSpeed : GoodIn wsX7_shape (va_wsS RX7 89 yX7_isSpeed wsX7_isSpeed) := goodIn_app (goodIn_of _ (by decide +kernel)) ggX7_shape_X7_isSpeed
set_option maxRecDepth 20000 in
theorem ggX7_shape_X7_isWithin : GoodIn wsX7_shape wsX7_isWithin := goodIn_r _ [12] (by decide +kernel) (by decide +kernel)
set_option maxRecDepth 20000 in
theorem gX7_shape_X7_isWithin : GoodIn wsX7_shape (va_wsS RX7 56 yX7_isWithin wsX7_isWithin) := goodIn_app (goodIn_of _ (by decide +kernel)) ggX7_shape_X7_isWithin
set_option maxRecDepth 20000 in
theorem ggX7_shape_X7_keepForUndo : GoodIn wsX7_shape wsX7_keepForUndo := goodIn_r _ [16, 17, 18, 19, 20, 1, 21, 22, 23, 24, 25, 26, 27, 28, 29, 30, 31, 32, 33, 34, 35, 36, 37, 38, 39, 40, 41, 42, 43, 44, 45, 46, 47, 48, 49, 50, 51, 52, 53, 54, 55, 56, 57, 58, 59, 60, 61, 62, 63, 64, 65, 66, 67, 68, 69, 70, 71, 72, 73, 74, 75, 76, 77, 78, 79, 80, 111, 112, 113, 114, 115, 116, 117, 118, 119, 120, 121, 122, 123, 124, 125, 126, 127, 128, 129, 130, 131, 132, 133, 134, 135, 136, 137, 138, 139, 140, 141, 142, 143] (by decide +kernel) (by decide +kernel)
set_option maxRecDepth 20000 in
theorem gX7_shape_X7_keepForUndo : GoodIn wsX7_shape (wsV RX7 92 RX7 yX7_keepForUndo wsX7_keepForUndo) := goodIn_app (goodIn_of _ (by decide +kernel)) ggX7_shape_X7_keepForUndo
set_option maxRecDepth 20000 in
theorem ggX7_shape_X2_tellByHalves : GoodIn wsX7_shape wsX2_tellByHalves := goodIn_r _ [84, 40, 41, 85, 86, 87, 38, 88, 89, 90, 91, 92, 42, 93, 94, 95, 46, 96, 54, 50, 97, 5, 98, 99, 100, 101, 102, 56, 57, 58, 59, 103, 104, 105, 106, 107, 108, 109, 110, 125, 126, 127, 128, 129, 130, 131, 132, 133, 134, 135, 136, 137, 138, 139, 140] (by decide +kernel) (by decide +kernel)
set_option maxRecDepth 20000 in
theorem gX7_shape_X2_tellByHalves : GoodIn wsX7_shape (wsV RX7 102 RX2 yX2_tellByHalves wsX2_tellByHalves) := goodIn_app (goodIn_of _ (by decide +kernel)) ggX7_shape_X2_tellByHalves
theorem dX7_shape_0 : decode cX7_shape 0 = .ok (.iload_n 1, 1) := by decide +kernel
theorem dX7_shape_1 : decode cX7_shape 1 = .ok (.invokestatic 85, 3) := by decide +kernel
theorem dX7_shape_4 : decode cX7_shape 4 = .ok (.ifCond .eq 20, 3) := by decide +kernel
theorem dX7_shape_7 : decode cX7_shape 7 = .ok (.iload_n 2, 1) := by decide +kernel
theorem dX7_shape_8 : decode cX7_shape 8 = .ok (.invokestatic 89, 3) := by decide +kernel
theorem dX7_shape_11 : decode cX7_shape 11 = .ok (.ifCond .eq 13, 3) := by decide +kernel
theorem dX7_shape_14 : decode cX7_shape 14 = .ok (.iload_n 3, 1) := by decide +kernel
theorem dX7_shape_15 : decode cX7_shape 15 = .ok (.iconst (-1), 1) := by decide +kernel
theorem dX7_shape_16 : decode cX7_shape 16 = .ok (.bipush 20, 2) := by decide +kernel
theorem dX7_shape_18 : decode cX7_shape 18 = .ok (.invokestatic 56, 3) := by decide +kernel
theorem dX7_shape_21 : decode cX7_shape 21 = .ok (.ifCond .ne 5, 3) := by decide +kernel
theorem dX7_shape_24 : decode cX7_shape 24 = .ok (.iconst (-1), 1) := by decide +kernel
theorem dX7_shape_25 : decode cX7_shape 25 = .ok (.ireturn, 1) := by decide +kernel
theorem dX7_shape_26 : decode cX7_shape 26 = .ok (.aload_n 0, 1) := by decide +kernel
theorem dX7_shape_27 : decode cX7_shape 27 = .ok (.invokevirtual 92, 3) := by decide +kernel
theorem dX7_shape_30 : decode cX7_shape 30 = .ok (.aload_n 0, 1) := by decide +kernel
theorem dX7_shape_31 : decode cX7_shape 31 = .ok (.getfield 36, 3) := by decide +kernel
theorem dX7_shape_34 : decode cX7_shape 34 = .ok (.getfield 95, 3) := by decide +kernel
theorem dX7_shape_37 : decode cX7_shape 37 = .ok (.iload_n 1, 1) := by decide +kernel
theorem dX7_shape_38 : decode cX7_shape 38 = .ok (.iload_n 2, 1) := by decide +kernel
theorem dX7_shape_39 : decode cX7_shape 39 = .ok (.iload_n 3, 1) := by decide +kernel
theorem dX7_shape_40 : decode cX7_shape 40 = .ok (.invokevirtual 102, 3) := by decide +kernel
theorem dX7_shape_43 : decode cX7_shape 43 = .ok (.ireturn, 1) := by decide +kernel
set_option maxRecDepth 20000 in
theorem ggX7_target_X7_isCrane : GoodIn wsX7_target wsX7_isCrane := goodIn_r _ [7] (by decide +kernel) (by decide +kernel)
set_option maxRecDepth 20000 in
theorem gX7_target_X7_isCrane : GoodIn wsX7_target (va_wsS RX7 85 yX7_isCrane wsX7_isCrane) := goodIn_app (goodIn_of _ (by decide +kernel)) ggX7_target_X7_isCrane
set_option maxRecDepth 20000 in
theorem ggX7_target_X7_isRope : GoodIn wsX7_target wsX7_isRope := goodIn_r _ [10, 11, 12, 6, 13] (by decide +kernel) (by decide +kernel)
set_option maxRecDepth 20000 in
theorem gX7_target_X7_isRope : GoodIn wsX7_target (va_wsS RX7 106 yX7_isRope wsX7_isRope) := goodIn_app (goodIn_of _ (by decide +kernel)) ggX7_target_X7_isRope
set_option maxRecDepth 20000 in
theorem ggX7_target_X2_aimsAt : GoodIn wsX7_target wsX2_aimsAt := goodIn_r _ [18, 19, 20, 21, 22, 23, 24, 17, 25, 26, 27, 28, 29, 30, 31, 32, 33, 34, 134, 135, 136, 121, 122, 123, 124, 125, 126, 127, 128, 129, 130, 131, 132, 133] (by decide +kernel) (by decide +kernel)
set_option maxRecDepth 20000 in
theorem gX7_target_X2_aimsAt : GoodIn wsX7_target (wsV RX7 109 RX2 yX2_aimsAt wsX2_aimsAt) := goodIn_app (goodIn_of _ (by decide +kernel)) ggX7_target_X2_aimsAt
set_option maxRecDepth 20000 in
theorem ggX7_target_X7_keepForUndo : GoodIn wsX7_target wsX7_keepForUndo := goodIn_r _ [38, 39, 40, 41, 42, 1, 43, 44, 45, 46, 47, 48, 49, 50, 51, 52, 53, 54, 55, 56, 57, 58, 59, 17, 60, 19, 21, 30, 61, 62, 63, 64, 65, 66, 67, 68, 69, 70, 71, 72, 73, 74, 75, 76, 77, 78, 79, 80, 81, 82, 83, 84, 85, 86, 87, 88, 89, 90, 91, 92, 93, 94, 95, 96, 97, 98, 107, 108, 109, 110, 111, 112, 113, 114, 115, 116, 117, 118, 119, 120, 134, 135, 136, 121, 122, 123, 124, 125, 126, 127, 128, 129, 130, 131, 132, 133, 137, 138, 139] (by decide +kernel) (by decide +kernel)
set_option maxRecDepth 20000 in
theorem gX7_target_X7_keepForUndo : GoodIn wsX7_target (wsV RX7 92 RX7 yX7_keepForUndo wsX7_keepForUndo) := goodIn_app (goodIn_of _ (by decide +kernel)) ggX7_target_X7_keepForUndo
set_option maxRecDepth 20000 in
theorem ggX7_target_X2_side : GoodIn wsX7_target wsX2_side := goodIn_r _ [102, 19, 21, 134, 135, 136] (by decide +kernel) (by decide +kernel)
set_option maxRecDepth 20000 in
theorem gX7_target_X2_side : GoodIn wsX7_target (wsV RX7 113 RX2 yX2_side wsX2_side) := goodIn_app (goodIn_of _ (by decide +kernel)) ggX7_target_X2_side
set_option maxRecDepth 20000 in
theorem ggX7_target_X2_aim : GoodIn wsX7_target wsX2_aim := goodIn_r _ [106, 19, 20, 21, 22, 23, 24, 17, 25, 26, 27, 28, 29, 30, 31, 32, 33, 34, 134, 135, 136, 121, 122, 123, 124, 125, 126, 127, 128, 129, 130, 131, 132, 133] (by decide +kernel) (by decide +kernel)
set_option maxRecDepth 20000 in
theorem gX7_target_X2_aim : GoodIn wsX7_target (wsV RX7 122 RX2 yX2_aim wsX2_aim) := goodIn_app (goodIn_of _ (by decide +kernel)) ggX7_target_X2_aim
theorem dX7_target_0 : decode cX7_target 0 = .ok (.iload_n 1, 1) := by decide +kernel
theorem dX7_target_1 : decode cX7_target 1 = .ok (.invokestatic 85, 3) := by decide +kernel
theorem dX7_target_4 : decode cX7_target 4 = .ok (.ifCond .eq 10, 3) := by decide +kernel
theorem dX7_target_7 : decode cX7_target 7 = .ok (.iload_n 2, 1) := by decide +kernel
theorem dX7_target_8 : decode cX7_target 8 = .ok (.invokestatic 106, 3) := by decide +kernel
theorem dX7_target_11 : decode cX7_target 11 = .ok (.ifCond .ne 5, 3) := by decide +kernel
theorem dX7_target_14 : decode cX7_target 14 = .ok (.iconst (-1), 1) := by decide +kernel
theorem dX7_target_15 : decode cX7_target 15 = .ok (.ireturn, 1) := by decide +kernel
theorem dX7_target_16 : decode cX7_target 16 = .ok (.aload_n 0, 1) := by decide +kernel
theorem dX7_target_17 : decode cX7_target 17 = .ok (.getfield 36, 3) := by decide +kernel
theorem dX7_target_20 : decode cX7_target 20 = .ok (.getfield 95, 3) := by decide +kernel
theorem dX7_target_23 : decode cX7_target 23 = .ok (.iload_n 1, 1) := by decide +kernel
theorem dX7_target_24 : decode cX7_target 24 = .ok (.iload_n 2, 1) := by decide +kernel
theorem dX7_target_25 : decode cX7_target 25 = .ok (.invokevirtual 109, 3) := by decide +kernel
theorem dX7_target_28 : decode cX7_target 28 = .ok (.ifCond .eq 6, 3) := by decide +kernel
theorem dX7_target_31 : decode cX7_target 31 = .ok (.bipush (-2), 2) := by decide +kernel
theorem dX7_target_33 : decode cX7_target 33 = .ok (.ireturn, 1) := by decide +kernel
theorem dX7_target_34 : decode cX7_target 34 = .ok (.aload_n 0, 1) := by decide +kernel
theorem dX7_target_35 : decode cX7_target 35 = .ok (.invokevirtual 92, 3) := by decide +kernel
theorem dX7_target_38 : decode cX7_target 38 = .ok (.aload_n 0, 1) := by decide +kernel
theorem dX7_target_39 : decode cX7_target 39 = .ok (.getfield 36, 3) := by decide +kernel
theorem dX7_target_42 : decode cX7_target 42 = .ok (.getfield 95, 3) := by decide +kernel
theorem dX7_target_45 : decode cX7_target 45 = .ok (.iload_n 1, 1) := by decide +kernel
theorem dX7_target_46 : decode cX7_target 46 = .ok (.invokevirtual 113, 3) := by decide +kernel
theorem dX7_target_49 : decode cX7_target 49 = .ok (.getfield 117, 3) := by decide +kernel
theorem dX7_target_52 : decode cX7_target 52 = .ok (.istore_n 3, 1) := by decide +kernel
theorem dX7_target_53 : decode cX7_target 53 = .ok (.aload_n 0, 1) := by decide +kernel
theorem dX7_target_54 : decode cX7_target 54 = .ok (.getfield 36, 3) := by decide +kernel
theorem dX7_target_57 : decode cX7_target 57 = .ok (.getfield 95, 3) := by decide +kernel
theorem dX7_target_60 : decode cX7_target 60 = .ok (.iload_n 1, 1) := by decide +kernel
theorem dX7_target_61 : decode cX7_target 61 = .ok (.iload_n 2, 1) := by decide +kernel
theorem dX7_target_62 : decode cX7_target 62 = .ok (.invokevirtual 122, 3) := by decide +kernel
theorem dX7_target_65 : decode cX7_target 65 = .ok (.iload_n 3, 1) := by decide +kernel
theorem dX7_target_66 : decode cX7_target 66 = .ok (.ireturn, 1) := by decide +kernel
set_option maxRecDepth 20000 in
theorem ggX7_load_X7_isCrane : GoodIn wsX7_load wsX7_isCrane := goodIn_r _ [7] (by decide +kernel) (by decide +kernel)
set_option maxRecDepth 20000 in
theorem gX7_load_X7_isCrane : GoodIn wsX7_load (va_wsS RX7 85 yX7_isCrane wsX7_isCrane) := goodIn_app (goodIn_of _ (by decide +kernel)) ggX7_load_X7_isCrane
set_option maxRecDepth 20000 in
theorem ggX7_load_X7_isWithin : GoodIn wsX7_load wsX7_isWithin := goodIn_r _ [10] (by decide +kernel) (by decide +kernel)
set_option maxRecDepth 20000 in
theorem gX7_load_X7_isWithin : GoodIn wsX7_load (va_wsS RX7 56 yX7_isWithin wsX7_isWithin) := goodIn_app (goodIn_of _ (by decide +kernel)) ggX7_load_X7_isWithin
set_option maxRecDepth 20000 in
theorem ggX7_load_X2_side : GoodIn wsX7_load wsX2_side := goodIn_r _ [15, 16, 17, 110, 111, 112] (by decide +kernel) (by decide +kernel)
set_option maxRecDepth 20000 in
theorem gX7_load_X2_side : GoodIn wsX7_load (wsV RX7 113 RX2 yX2_side wsX2_side) := goodIn_app (goodIn_of _ (by decide +kernel)) ggX7_load_X2_side
set_option maxRecDepth 20000 in
theorem ggX7_load_X7_keepForUndo : GoodIn wsX7_load wsX7_keepForUndo := goodIn_r _ [21, 22, 23, 24, 25, 1, 26, 27, 28, 29, 30, 31, 32, 33, 34, 35, 36, 37, 38, 39, 40, 41, 42, 14, 43, 16, 17, 44, 45, 46, 47, 48, 49, 50, 51, 52, 53, 54, 55, 56, 57, 58, 59, 60, 61, 62, 63, 64, 65, 66, 67, 68, 69, 70, 71, 72, 73, 74, 75, 76, 77, 78, 79, 80, 81, 82, 83, 84, 85, 86, 87, 88, 89, 90, 91, 92, 93, 94, 95, 96, 110, 111, 112, 97, 98, 99, 100, 101, 102, 103, 104, 105, 106, 107, 108, 109, 113, 114, 115] (by decide +kernel) (by decide +kernel)
set_option maxRecDepth 20000 in
theorem gX7_load_X7_keepForUndo : GoodIn wsX7_load (wsV RX7 92 RX7 yX7_keepForUndo wsX7_keepForUndo) := goodIn_app (goodIn_of _ (by decide +kernel)) ggX7_load_X7_keepForUndo
theorem dX7_load_0 : decode cX7_load 0 = .ok (.iload_n 1, 1) := by decide +kernel
theorem dX7_load_1 : decode cX7_load 1 = .ok (.invokestatic 85, 3) := by decide +kernel
theorem dX7_load_4 : decode cX7_load 4 = .ok (.ifCond .eq 13, 3) := by decide +kernel
theorem dX7_load_7 : decode cX7_load 7 = .ok (.iload_n 2, 1) := by decide +kernel
theorem dX7_load_8 : decode cX7_load 8 = .ok (.iconst 0, 1) := by decide +kernel
theorem dX7_load_9 : decode cX7_load 9 = .ok (.bipush 99, 2) := by decide +kernel
theorem dX7_load_11 : decode cX7_load 11 = .ok (.invokestatic 56, 3) := by decide +kernel
theorem dX7_load_14 : decode cX7_load 14 = .ok (.ifCond .ne 5, 3) := by decide +kernel
theorem dX7_load_17 : decode cX7_load 17 = .ok (.iconst (-1), 1) := by decide +kernel
theorem dX7_load_18 : decode cX7_load 18 = .ok (.ireturn, 1) := by decide +kernel
theorem dX7_load_19 : decode cX7_load 19 = .ok (.aload_n 0, 1) := by decide +kernel
theorem dX7_load_20 : decode cX7_load 20 = .ok (.getfield 36, 3) := by decide +kernel
theorem dX7_load_23 : decode cX7_load 23 = .ok (.getfield 95, 3) := by decide +kernel
theorem dX7_load_26 : decode cX7_load 26 = .ok (.iload_n 1, 1) := by decide +kernel
theorem dX7_load_27 : decode cX7_load 27 = .ok (.invokevirtual 113, 3) := by decide +kernel
theorem dX7_load_30 : decode cX7_load 30 = .ok (.getfield 126, 3) := by decide +kernel
theorem dX7_load_33 : decode cX7_load 33 = .ok (.istore_n 3, 1) := by decide +kernel
theorem dX7_load_34 : decode cX7_load 34 = .ok (.iload_n 3, 1) := by decide +kernel
theorem dX7_load_35 : decode cX7_load 35 = .ok (.iload_n 2, 1) := by decide +kernel
theorem dX7_load_36 : decode cX7_load 36 = .ok (.if_icmp .ne 6, 3) := by decide +kernel
theorem dX7_load_39 : decode cX7_load 39 = .ok (.bipush (-2), 2) := by decide +kernel
theorem dX7_load_41 : decode cX7_load 41 = .ok (.ireturn, 1) := by decide +kernel
theorem dX7_load_42 : decode cX7_load 42 = .ok (.aload_n 0, 1) := by decide +kernel
theorem dX7_load_43 : decode cX7_load 43 = .ok (.invokevirtual 92, 3) := by decide +kernel
theorem dX7_load_46 : decode cX7_load 46 = .ok (.aload_n 0, 1) := by decide +kernel
theorem dX7_load_47 : decode cX7_load 47 = .ok (.getfield 36, 3) := by decide +kernel
theorem dX7_load_50 : decode cX7_load 50 = .ok (.getfield 95, 3) := by decide +kernel
theorem dX7_load_53 : decode cX7_load 53 = .ok (.iload_n 1, 1) := by decide +kernel
theorem dX7_load_54 : decode cX7_load 54 = .ok (.invokevirtual 113, 3) := by decide +kernel
theorem dX7_load_57 : decode cX7_load 57 = .ok (.iload_n 2, 1) := by decide +kernel
theorem dX7_load_58 : decode cX7_load 58 = .ok (.putfield 126, 3) := by decide +kernel
theorem dX7_load_61 : decode cX7_load 61 = .ok (.iload_n 3, 1) := by decide +kernel
theorem dX7_load_62 : decode cX7_load 62 = .ok (.ireturn, 1) := by decide +kernel
set_option maxRecDepth 20000 in
theorem ggX7_couple_X7_isWithin : GoodIn wsX7_couple wsX7_isWithin := goodIn_r _ [7] (by decide +kernel) (by decide +kernel)
set_option maxRecDepth 20000 in
theorem gX7_couple_X7_isWithin : GoodIn wsX7_couple (va_wsS RX7 56 yX7_isWithin wsX7_isWithin) := goodIn_app (goodIn_of _ (by decide +kernel)) ggX7_couple_X7_isWithin
set_option maxRecDepth 20000 in
theorem ggX7_couple_X7_keepForUndo : GoodIn wsX7_couple wsX7_keepForUndo := goodIn_r _ [11, 12, 13, 14, 15, 1, 16, 17, 18, 19, 20, 21, 22, 23, 24, 25, 26, 27, 28, 29, 30, 31, 32, 33, 34, 35, 36, 37, 38, 39, 40, 41, 42, 43, 44, 45, 46, 47, 48, 49, 50, 51, 52, 53, 54, 55, 56, 57, 58, 59, 60, 61, 62, 63, 64, 65, 66, 67, 68, 69, 70, 71, 72, 73, 74, 75, 76, 77, 78, 79, 80, 81, 82, 83, 84, 85, 86, 87, 88, 89, 90, 91, 92, 93, 94, 95, 96, 97, 98, 99, 100, 101, 102, 103, 104, 105, 106, 107, 108] (by decide +kernel) (by decide +kernel)
set_option maxRecDepth 20000 in
theorem gX7_couple_X7_keepForUndo : GoodIn wsX7_couple (wsV RX7 92 RX7 yX7_keepForUndo wsX7_keepForUndo) := goodIn_app (goodIn_of _ (by decide +kernel)) ggX7_couple_X7_keepForUndo
theorem dX7_couple_0 : decode cX7_couple 0 = .ok (.iload_n 1, 1) := by decide +kernel
theorem dX7_couple_1 : decode cX7_couple 1 = .ok (.iconst (-1), 1) := by decide +kernel
theorem dX7_couple_2 : decode cX7_couple 2 = .ok (.bipush 20, 2) := by decide +kernel
theorem dX7_couple_4 : decode cX7_couple 4 = .ok (.invokestatic 56, 3) := by decide +kernel
theorem dX7_couple_7 : decode cX7_couple 7 = .ok (.ifCond .ne 5, 3) := by decide +kernel
theorem dX7_couple_10 : decode cX7_couple 10 = .ok (.iconst (-1), 1) := by decide +kernel
theorem dX7_couple_11 : decode cX7_couple 11 = .ok (.ireturn, 1) := by decide +kernel
theorem dX7_couple_12 : decode cX7_couple 12 = .ok (.aload_n 0, 1) := by decide +kernel
theorem dX7_couple_13 : decode cX7_couple 13 = .ok (.getfield 36, 3) := by decide +kernel
theorem dX7_couple_16 : decode cX7_couple 16 = .ok (.getfield 95, 3) := by decide +kernel
theorem dX7_couple_19 : decode cX7_couple 19 = .ok (.getfield 129, 3) := by decide +kernel
theorem dX7_couple_22 : decode cX7_couple 22 = .ok (.istore_n 2, 1) := by decide +kernel
theorem dX7_couple_23 : decode cX7_couple 23 = .ok (.iload_n 1, 1) := by decide +kernel
theorem dX7_couple_24 : decode cX7_couple 24 = .ok (.ifCond .ge 8, 3) := by decide +kernel
theorem dX7_couple_27 : decode cX7_couple 27 = .ok (.bipush (-4), 2) := by decide +kernel
theorem dX7_couple_29 : decode cX7_couple 29 = .ok (.goto 4, 3) := by decide +kernel
theorem dX7_couple_32 : decode cX7_couple 32 = .ok (.iload_n 1, 1) := by decide +kernel
theorem dX7_couple_33 : decode cX7_couple 33 = .ok (.istore_n 3, 1) := by decide +kernel
theorem dX7_couple_34 : decode cX7_couple 34 = .ok (.iload_n 2, 1) := by decide +kernel
theorem dX7_couple_35 : decode cX7_couple 35 = .ok (.iload_n 3, 1) := by decide +kernel
theorem dX7_couple_36 : decode cX7_couple 36 = .ok (.if_icmp .ne 6, 3) := by decide +kernel
theorem dX7_couple_39 : decode cX7_couple 39 = .ok (.bipush (-2), 2) := by decide +kernel
theorem dX7_couple_41 : decode cX7_couple 41 = .ok (.ireturn, 1) := by decide +kernel
theorem dX7_couple_42 : decode cX7_couple 42 = .ok (.aload_n 0, 1) := by decide +kernel
theorem dX7_couple_43 : decode cX7_couple 43 = .ok (.invokevirtual 92, 3) := by decide +kernel
theorem dX7_couple_46 : decode cX7_couple 46 = .ok (.aload_n 0, 1) := by decide +kernel
theorem dX7_couple_47 : decode cX7_couple 47 = .ok (.getfield 36, 3) := by decide +kernel
theorem dX7_couple_50 : decode cX7_couple 50 = .ok (.getfield 95, 3) := by decide +kernel
theorem dX7_couple_53 : decode cX7_couple 53 = .ok (.iload_n 3, 1) := by decide +kernel
theorem dX7_couple_54 : decode cX7_couple 54 = .ok (.putfield 129, 3) := by decide +kernel
theorem dX7_couple_57 : decode cX7_couple 57 = .ok (.iload_n 2, 1) := by decide +kernel
theorem dX7_couple_58 : decode cX7_couple 58 = .ok (.ireturn, 1) := by decide +kernel
set_option maxRecDepth 20000 in
theorem ggX7_tick_X7_isWithin : GoodIn wsX7_tick wsX7_isWithin := goodIn_r _ [7] (by decide +kernel) (by decide +kernel)
set_option maxRecDepth 20000 in
theorem gX7_tick_X7_isWithin : GoodIn wsX7_tick (va_wsS RX7 56 yX7_isWithin wsX7_isWithin) := goodIn_app (goodIn_of _ (by decide +kernel)) ggX7_tick_X7_isWithin
set_option maxRecDepth 20000 in
theorem ggX7_tick_X7_keepForUndo : GoodIn wsX7_tick wsX7_keepForUndo := goodIn_r _ [11, 12, 13, 14, 15, 1, 16, 17, 18, 19, 20, 21, 22, 23, 24, 25, 26, 27, 28, 29, 30, 31, 32, 33, 34, 35, 36, 37, 38, 39, 40, 41, 42, 43, 44, 45, 46, 47, 48, 49, 50, 51, 52, 53, 54, 55, 56, 57, 58, 59, 60, 61, 62, 63, 64, 65, 66, 67, 68, 69, 70, 71, 72, 73, 74, 75, 152, 153, 154, 155, 156, 157, 158, 159, 160, 161, 162, 163, 164, 165, 166, 167, 168, 169, 170, 171, 172, 173, 174, 175, 176, 177, 178, 179, 180, 181, 182, 183, 184] (by decide +kernel) (by decide +kernel)
set_option maxRecDepth 20000 in
theorem gX7_tick_X7_keepForUndo : GoodIn wsX7_tick (wsV RX7 92 RX7 yX7_keepForUndo wsX7_keepForUndo) := goodIn_app (goodIn_of _ (by decide +kernel)) ggX7_tick_X7_keepForUndo
set_option maxRecDepth 20000 in
theorem ggX7_tick_X5_goOn : GoodIn wsX7_tick wsX5_goOn := goodIn_r _ [79, 26, 27, 80, 28, 81, 29, 82, 83, 84, 33, 85, 35, 86, 36, 87, 88, 89, 37, 90, 91, 92, 93, 94, 95, 96, 97, 98, 41, 99, 100, 55, 44, 43, 101, 102, 103, 104, 51, 53, 52, 49, 54, 105, 106, 107, 108, 109, 110, 111, 112, 113, 46, 114, 115, 19, 116, 117, 6, 118, 17, 18, 20, 119, 120, 121, 122, 123, 124, 125, 126, 127, 128, 129, 130, 131, 132, 133, 45, 47, 48, 134, 135, 136, 137, 50, 138, 139, 140, 59, 141, 142, 143, 61, 144, 145, 146, 147, 148, 149, 150, 151, 62, 63, 64, 65, 66, 67, 68, 69, 70, 71, 72, 73, 74, 75, 162, 163, 164, 165, 166, 167, 168, 169, 170, 171, 172, 173, 174, 175, 176, 177, 178, 179, 180, 181, 185, 186, 187, 188, 189, 190, 191, 182, 183, 184] (by decide +kernel) (by decide +kernel)
set_option maxRecDepth 20000 in
theorem gX7_tick_X5_goOn : GoodIn wsX7_tick (wsV RX7 135 RX5 yX5_goOn wsX5_goOn) := goodIn_app (goodIn_of _ (by decide +kernel)) ggX7_tick_X5_goOn
theorem dX7_tick_0 : decode cX7_tick 0 = .ok (.iload_n 1, 1) := by decide +kernel
theorem dX7_tick_1 : decode cX7_tick 1 = .ok (.iconst 1, 1) := by decide +kernel
theorem dX7_tick_2 : decode cX7_tick 2 = .ok (.bipush 60, 2) := by decide +kernel
theorem dX7_tick_4 : decode cX7_tick 4 = .ok (.invokestatic 56, 3) := by decide +kernel
theorem dX7_tick_7 : decode cX7_tick 7 = .ok (.ifCond .ne 5, 3) := by decide +kernel
theorem dX7_tick_10 : decode cX7_tick 10 = .ok (.iconst (-1), 1) := by decide +kernel
theorem dX7_tick_11 : decode cX7_tick 11 = .ok (.ireturn, 1) := by decide +kernel
theorem dX7_tick_12 : decode cX7_tick 12 = .ok (.aload_n 0, 1) := by decide +kernel
theorem dX7_tick_13 : decode cX7_tick 13 = .ok (.getfield 36, 3) := by decide +kernel
theorem dX7_tick_16 : decode cX7_tick 16 = .ok (.getfield 132, 3) := by decide +kernel
theorem dX7_tick_19 : decode cX7_tick 19 = .ok (.iload_n 1, 1) := by decide +kernel
theorem dX7_tick_20 : decode cX7_tick 20 = .ok (.iadd, 1) := by decide +kernel
theorem dX7_tick_21 : decode cX7_tick 21 = .ok (.sipush 9999, 3) := by decide +kernel
theorem dX7_tick_24 : decode cX7_tick 24 = .ok (.if_icmp .le 6, 3) := by decide +kernel
theorem dX7_tick_27 : decode cX7_tick 27 = .ok (.bipush (-2), 2) := by decide +kernel
theorem dX7_tick_29 : decode cX7_tick 29 = .ok (.ireturn, 1) := by decide +kernel
theorem dX7_tick_30 : decode cX7_tick 30 = .ok (.aload_n 0, 1) := by decide +kernel
theorem dX7_tick_31 : decode cX7_tick 31 = .ok (.invokevirtual 92, 3) := by decide +kernel
theorem dX7_tick_34 : decode cX7_tick 34 = .ok (.iconst 0, 1) := by decide +kernel
theorem dX7_tick_35 : decode cX7_tick 35 = .ok (.istore_n 2, 1) := by decide +kernel
theorem dX7_tick_36 : decode cX7_tick 36 = .ok (.iconst 0, 1) := by decide +kernel
theorem dX7_tick_37 : decode cX7_tick 37 = .ok (.istore_n 3, 1) := by decide +kernel
theorem dX7_tick_38 : decode cX7_tick 38 = .ok (.iload_n 3, 1) := by decide +kernel
theorem dX7_tick_39 : decode cX7_tick 39 = .ok (.iload_n 1, 1) := by decide +kernel
theorem dX7_tick_40 : decode cX7_tick 40 = .ok (.if_icmp .ge 23, 3) := by decide +kernel
theorem dX7_tick_43 : decode cX7_tick 43 = .ok (.iload_n 2, 1) := by decide +kernel
theorem dX7_tick_44 : decode cX7_tick 44 = .ok (.aload_n 0, 1) := by decide +kernel
theorem dX7_tick_45 : decode cX7_tick 45 = .ok (.getfield 36, 3) := by decide +kernel
theorem dX7_tick_48 : decode cX7_tick 48 = .ok (.aload_n 0, 1) := by decide +kernel
theorem dX7_tick_49 : decode cX7_tick 49 = .ok (.getfield 26, 3) := by decide +kernel
theorem dX7_tick_52 : decode cX7_tick 52 = .ok (.invokevirtual 135, 3) := by decide +kernel
theorem dX7_tick_55 : decode cX7_tick 55 = .ok (.iadd, 1) := by decide +kernel
theorem dX7_tick_56 : decode cX7_tick 56 = .ok (.istore_n 2, 1) := by decide +kernel
theorem dX7_tick_57 : decode cX7_tick 57 = .ok (.iinc 3 1, 3) := by decide +kernel
theorem dX7_tick_60 : decode cX7_tick 60 = .ok (.goto (-22), 3) := by decide +kernel
theorem dX7_tick_63 : decode cX7_tick 63 = .ok (.iload_n 2, 1) := by decide +kernel
theorem dX7_tick_64 : decode cX7_tick 64 = .ok (.ireturn, 1) := by decide +kernel
theorem dX7_undo_0 : decode cX7_undo 0 = .ok (.aload_n 0, 1) := by decide +kernel
theorem dX7_undo_1 : decode cX7_undo 1 = .ok (.getfield 79, 3) := by decide +kernel
theorem dX7_undo_4 : decode cX7_undo 4 = .ok (.iconst 1, 1) := by decide +kernel
theorem dX7_undo_5 : decode cX7_undo 5 = .ok (.if_icmp .ge 6, 3) := by decide +kernel
theorem dX7_undo_8 : decode cX7_undo 8 = .ok (.bipush (-2), 2) := by decide +kernel
theorem dX7_undo_10 : decode cX7_undo 10 = .ok (.ireturn, 1) := by decide +kernel
theorem dX7_undo_11 : decode cX7_undo 11 = .ok (.aload_n 0, 1) := by decide +kernel
theorem dX7_undo_12 : decode cX7_undo 12 = .ok (.getfield 36, 3) := by decide +kernel
theorem dX7_undo_15 : decode cX7_undo 15 = .ok (.astore_n 1, 1) := by decide +kernel
theorem dX7_undo_16 : decode cX7_undo 16 = .ok (.aload_n 0, 1) := by decide +kernel
theorem dX7_undo_17 : decode cX7_undo 17 = .ok (.aload_n 0, 1) := by decide +kernel
theorem dX7_undo_18 : decode cX7_undo 18 = .ok (.getfield 40, 3) := by decide +kernel
theorem dX7_undo_21 : decode cX7_undo 21 = .ok (.putfield 36, 3) := by decide +kernel
theorem dX7_undo_24 : decode cX7_undo 24 = .ok (.aload_n 0, 1) := by decide +kernel
theorem dX7_undo_25 : decode cX7_undo 25 = .ok (.aload_n 0, 1) := by decide +kernel
theorem dX7_undo_26 : decode cX7_undo 26 = .ok (.getfield 43, 3) := by decide +kernel
theorem dX7_undo_29 : decode cX7_undo 29 = .ok (.putfield 40, 3) := by decide +kernel
theorem dX7_undo_32 : decode cX7_undo 32 = .ok (.aload_n 0, 1) := by decide +kernel
theorem dX7_undo_33 : decode cX7_undo 33 = .ok (.aload_n 0, 1) := by decide +kernel
theorem dX7_undo_34 : decode cX7_undo 34 = .ok (.getfield 46, 3) := by decide +kernel
theorem dX7_undo_37 : decode cX7_undo 37 = .ok (.putfield 43, 3) := by decide +kernel
theorem dX7_undo_40 : decode cX7_undo 40 = .ok (.aload_n 0, 1) := by decide +kernel
theorem dX7_undo_41 : decode cX7_undo 41 = .ok (.aload_n 0, 1) := by decide +kernel
theorem dX7_undo_42 : decode cX7_undo 42 = .ok (.getfield 49, 3) := by decide +kernel
theorem dX7_undo_45 : decode cX7_undo 45 = .ok (.putfield 46, 3) := by decide +kernel
theorem dX7_undo_48 : decode cX7_undo 48 = .ok (.aload_n 0, 1) := by decide +kernel
theorem dX7_undo_49 : decode cX7_undo 49 = .ok (.aload_n 1, 1) := by decide +kernel
theorem dX7_undo_50 : decode cX7_undo 50 = .ok (.putfield 49, 3) := by decide +kernel
theorem dX7_undo_53 : decode cX7_undo 53 = .ok (.aload_n 0, 1) := by decide +kernel
theorem dX7_undo_54 : decode cX7_undo 54 = .ok (.dup, 1) := by decide +kernel
theorem dX7_undo_55 : decode cX7_undo 55 = .ok (.getfield 79, 3) := by decide +kernel
theorem dX7_undo_58 : decode cX7_undo 58 = .ok (.iconst 1, 1) := by decide +kernel
theorem dX7_undo_59 : decode cX7_undo 59 = .ok (.isub, 1) := by decide +kernel
theorem dX7_undo_60 : decode cX7_undo 60 = .ok (.putfield 79, 3) := by decide +kernel
theorem dX7_undo_63 : decode cX7_undo 63 = .ok (.aload_n 0, 1) := by decide +kernel
theorem dX7_undo_64 : decode cX7_undo 64 = .ok (.getfield 79, 3) := by decide +kernel
theorem dX7_undo_67 : decode cX7_undo 67 = .ok (.ireturn, 1) := by decide +kernel
set_option maxRecDepth 20000 in
theorem ggX7_crane_X7_isCrane : GoodIn wsX7_crane wsX7_isCrane := goodIn_r _ [17] (by decide +kernel) (by decide +kernel)
set_option maxRecDepth 20000 in
theorem gX7_crane_X7_isCrane : GoodIn wsX7_crane (va_wsS RX7 85 yX7_isCrane wsX7_isCrane) := goodIn_app (goodIn_of _ (by decide +kernel)) ggX7_crane_X7_isCrane
set_option maxRecDepth 20000 in
theorem ggX7_crane_X2_side : GoodIn wsX7_crane wsX2_side := goodIn_r _ [22, 23, 24, 95, 96, 97] (by decide +kernel) (by decide +kernel)
set_option maxRecDepth 20000 in
theorem gX7_crane_X2_side : GoodIn wsX7_crane (wsV RX7 113 RX2 yX2_side wsX2_side) := goodIn_app (goodIn_of _ (by decide +kernel)) ggX7_crane_X2_side
set_option maxRecDepth 20000 in
theorem ggX7_crane_X0_limit : GoodIn wsX7_crane wsX0_limit := goodIn_r _ [29, 30, 31, 32, 33, 34, 35, 88, 89, 90, 91, 92, 93, 94, 75, 76, 77, 78, 79, 80, 81, 82, 83, 84, 85, 86, 87] (by decide +kernel) (by decide +kernel)
set_option maxRecDepth 20000 in
theorem gX7_crane_X0_limit : GoodIn wsX7_crane (wsV RX7 157 RX0 yX0_limit wsX0_limit) := goodIn_app (goodIn_of _ (by decide +kernel)) ggX7_crane_X0_limit
set_option maxRecDepth 20000 in
theorem ggX7_crane_X0_stepsToCome : GoodIn wsX7_crane wsX0_stepsToCome := goodIn_r _ [39, 40, 41, 75, 76, 77, 78, 79, 80, 81, 82, 83, 84, 85, 86, 87] (by decide +kernel) (by decide +kernel)
set_option maxRecDepth 20000 in
theorem gX7_crane_X0_stepsToCome : GoodIn wsX7_crane (wsV RX7 160 RX0 yX0_stepsToCome wsX0_stepsToCome) := goodIn_app (goodIn_of _ (by decide +kernel)) ggX7_crane_X0_stepsToCome
set_option maxRecDepth 20000 in
theorem ggX7_crane_X7_wayToStop : GoodIn wsX7_crane wsX7_wayToStop := goodIn_r _ [44, 45, 46, 34, 47] (by decide +kernel) (by decide +kernel)
set_option maxRecDepth 20000 in
theorem gX7_crane_X7_wayToStop : GoodIn wsX7_crane (va_wsS RX7 167 yX7_wayToStop wsX7_wayToStop) := goodIn_app (goodIn_of _ (by decide +kernel)) ggX7_crane_X7_wayToStop
set_option maxRecDepth 20000 in
theorem ggX7_crane_X7_halfSwing : GoodIn wsX7_crane wsX7_halfSwing := goodIn_r _ [50] (by decide +kernel) (by decide +kernel)
set_option maxRecDepth 20000 in
theorem gX7_crane_X7_halfSwing : GoodIn wsX7_crane (va_wsS RX7 170 yX7_halfSwing wsX7_halfSwing) := goodIn_app (goodIn_of _ (by decide +kernel)) ggX7_crane_X7_halfSwing
set_option maxRecDepth 20000 in
theorem ggX7_crane_X0_isQuiet : GoodIn wsX7_crane wsX0_isQuiet := goodIn_r _ [54, 55, 56, 57, 58, 46, 34, 47, 59, 60, 37, 38, 28, 39, 40, 41, 75, 76, 77, 78, 79, 80, 81, 82, 83, 84, 85, 86, 87] (by decide +kernel) (by decide +kernel)
set_option maxRecDepth 20000 in
theorem gX7_crane_X0_isQuiet : GoodIn wsX7_crane (wsV RX7 174 RX0 yX0_isQuiet wsX0_isQuiet) := goodIn_app (goodIn_of _ (by decide +kernel)) ggX7_crane_X0_isQuiet
theorem dX7_crane_0 : decode cX7_crane 0 = .ok (.iload_n 1, 1) := by decide +kernel
theorem dX7_crane_1 : decode cX7_crane 1 = .ok (.invokestatic 85, 3) := by decide +kernel
theorem dX7_crane_4 : decode cX7_crane 4 = .ok (.ifCond .ne 5, 3) := by decide +kernel
theorem dX7_crane_7 : decode cX7_crane 7 = .ok (.iconst (-1), 1) := by decide +kernel
theorem dX7_crane_8 : decode cX7_crane 8 = .ok (.ireturn, 1) := by decide +kernel
theorem dX7_crane_9 : decode cX7_crane 9 = .ok (.aload_n 0, 1) := by decide +kernel
theorem dX7_crane_10 : decode cX7_crane 10 = .ok (.getfield 36, 3) := by decide +kernel
theorem dX7_crane_13 : decode cX7_crane 13 = .ok (.getfield 95, 3) := by decide +kernel
theorem dX7_crane_16 : decode cX7_crane 16 = .ok (.iload_n 1, 1) := by decide +kernel
theorem dX7_crane_17 : decode cX7_crane 17 = .ok (.invokevirtual 113, 3) := by decide +kernel
theorem dX7_crane_20 : decode cX7_crane 20 = .ok (.astore_n 3, 1) := by decide +kernel
theorem dX7_crane_21 : decode cX7_crane 21 = .ok (.iload_n 2, 1) := by decide +kernel
theorem dX7_crane_22 : decode cX7_crane 22 = .ok (.tableswitch 168 0 12 #[66, 71, 79, 84, 89, 97, 105, 113, 118, 127, 132, 147, 155], 66) := by decide +kernel
theorem dX7_crane_88 : decode cX7_crane 88 = .ok (.aload_n 3, 1) := by decide +kernel
theorem dX7_crane_89 : decode cX7_crane 89 = .ok (.getfield 138, 3) := by decide +kernel
theorem dX7_crane_92 : decode cX7_crane 92 = .ok (.ireturn, 1) := by decide +kernel
theorem dX7_crane_93 : decode cX7_crane 93 = .ok (.aload_n 3, 1) := by decide +kernel
theorem dX7_crane_94 : decode cX7_crane 94 = .ok (.getfield 141, 3) := by decide +kernel
theorem dX7_crane_97 : decode cX7_crane 97 = .ok (.ldc 144, 2) := by decide +kernel
theorem dX7_crane_99 : decode cX7_crane 99 = .ok (.iadd, 1) := by decide +kernel
theorem dX7_crane_100 : decode cX7_crane 100 = .ok (.ireturn, 1) := by decide +kernel
theorem dX7_crane_101 : decode cX7_crane 101 = .ok (.aload_n 3, 1) := by decide +kernel
theorem dX7_crane_102 : decode cX7_crane 102 = .ok (.getfield 145, 3) := by decide +kernel
theorem dX7_crane_105 : decode cX7_crane 105 = .ok (.ireturn, 1) := by decide +kernel
theorem dX7_crane_106 : decode cX7_crane 106 = .ok (.aload_n 3, 1) := by decide +kernel
theorem dX7_crane_107 : decode cX7_crane 107 = .ok (.getfield 126, 3) := by decide +kernel
theorem dX7_crane_110 : decode cX7_crane 110 = .ok (.ireturn, 1) := by decide +kernel
theorem dX7_crane_111 : decode cX7_crane 111 = .ok (.aload_n 3, 1) := by decide +kernel
theorem dX7_crane_112 : decode cX7_crane 112 = .ok (.getfield 148, 3) := by decide +kernel
theorem dX7_crane_115 : decode cX7_crane 115 = .ok (.ldc 144, 2) := by decide +kernel
theorem dX7_crane_117 : decode cX7_crane 117 = .ok (.iadd, 1) := by decide +kernel
theorem dX7_crane_118 : decode cX7_crane 118 = .ok (.ireturn, 1) := by decide +kernel
theorem dX7_crane_119 : decode cX7_crane 119 = .ok (.aload_n 3, 1) := by decide +kernel
theorem dX7_crane_120 : decode cX7_crane 120 = .ok (.getfield 151, 3) := by decide +kernel
theorem dX7_crane_123 : decode cX7_crane 123 = .ok (.ldc 144, 2) := by decide +kernel
theorem dX7_crane_125 : decode cX7_crane 125 = .ok (.iadd, 1) := by decide +kernel
theorem dX7_crane_126 : decode cX7_crane 126 = .ok (.ireturn, 1) := by decide +kernel
theorem dX7_crane_127 : decode cX7_crane 127 = .ok (.aload_n 3, 1) := by decide +kernel
theorem dX7_crane_128 : decode cX7_crane 128 = .ok (.getfield 154, 3) := by decide +kernel
theorem dX7_crane_131 : decode cX7_crane 131 = .ok (.ldc 144, 2) := by decide +kernel
theorem dX7_crane_133 : decode cX7_crane 133 = .ok (.iadd, 1) := by decide +kernel
theorem dX7_crane_134 : decode cX7_crane 134 = .ok (.ireturn, 1) := by decide +kernel
theorem dX7_crane_135 : decode cX7_crane 135 = .ok (.aload_n 3, 1) := by decide +kernel
theorem dX7_crane_136 : decode cX7_crane 136 = .ok (.getfield 117, 3) := by decide +kernel
theorem dX7_crane_139 : decode cX7_crane 139 = .ok (.ireturn, 1) := by decide +kernel
theorem dX7_crane_140 : decode cX7_crane 140 = .ok (.aload_n 3, 1) := by decide +kernel
theorem dX7_crane_141 : decode cX7_crane 141 = .ok (.aload_n 0, 1) := by decide +kernel
theorem dX7_crane_142 : decode cX7_crane 142 = .ok (.getfield 26, 3) := by decide +kernel
theorem dX7_crane_145 : decode cX7_crane 145 = .ok (.invokevirtual 157, 3) := by decide +kernel
theorem dX7_crane_148 : decode cX7_crane 148 = .ok (.ireturn, 1) := by decide +kernel
theorem dX7_crane_149 : decode cX7_crane 149 = .ok (.aload_n 3, 1) := by decide +kernel
theorem dX7_crane_150 : decode cX7_crane 150 = .ok (.invokevirtual 160, 3) := by decide +kernel
theorem dX7_crane_153 : decode cX7_crane 153 = .ok (.ireturn, 1) := by decide +kernel
theorem dX7_crane_154 : decode cX7_crane 154 = .ok (.aload_n 3, 1) := by decide +kernel
theorem dX7_crane_155 : decode cX7_crane 155 = .ok (.getfield 141, 3) := by decide +kernel
theorem dX7_crane_158 : decode cX7_crane 158 = .ok (.aload_n 0, 1) := by decide +kernel
theorem dX7_crane_159 : decode cX7_crane 159 = .ok (.getfield 26, 3) := by decide +kernel
theorem dX7_crane_162 : decode cX7_crane 162 = .ok (.getfield 164, 3) := by decide +kernel
theorem dX7_crane_165 : decode cX7_crane 165 = .ok (.invokestatic 167, 3) := by decide +kernel
theorem dX7_crane_168 : decode cX7_crane 168 = .ok (.ireturn, 1) := by decide +kernel
theorem dX7_crane_169 : decode cX7_crane 169 = .ok (.aload_n 3, 1) := by decide +kernel
theorem dX7_crane_170 : decode cX7_crane 170 = .ok (.getfield 145, 3) := by decide +kernel
theorem dX7_crane_173 : decode cX7_crane 173 = .ok (.invokestatic 170, 3) := by decide +kernel
theorem dX7_crane_176 : decode cX7_crane 176 = .ok (.ireturn, 1) := by decide +kernel
theorem dX7_crane_177 : decode cX7_crane 177 = .ok (.aload_n 3, 1) := by decide +kernel
theorem dX7_crane_178 : decode cX7_crane 178 = .ok (.invokevirtual 174, 3) := by decide +kernel
theorem dX7_crane_181 : decode cX7_crane 181 = .ok (.ifCond .eq 7, 3) := by decide +kernel
theorem dX7_crane_184 : decode cX7_crane 184 = .ok (.iconst 1, 1) := by decide +kernel
theorem dX7_crane_185 : decode cX7_crane 185 = .ok (.goto 4, 3) := by decide +kernel
theorem dX7_crane_188 : decode cX7_crane 188 = .ok (.iconst 0, 1) := by decide +kernel
theorem dX7_crane_189 : decode cX7_crane 189 = .ok (.ireturn, 1) := by decide +kernel
theorem dX7_crane_190 : decode cX7_crane 190 = .ok (.iconst (-1), 1) := by decide +kernel
theorem dX7_crane_191 : decode cX7_crane 191 = .ok (.ireturn, 1) := by decide +kernel
set_option maxRecDepth 20000 in
theorem ggX7_stepOf_X7_isCrane : GoodIn wsX7_stepOf wsX7_isCrane := goodIn_r _ [7] (by decide +kernel) (by decide +kernel)
set_option maxRecDepth 20000 in
theorem gX7_stepOf_X7_isCrane : GoodIn wsX7_stepOf (va_wsS RX7 85 yX7_isCrane wsX7_isCrane) := goodIn_app (goodIn_of _ (by decide +kernel)) ggX7_stepOf_X7_isCrane
set_option maxRecDepth 20000 in
theorem ggX7_stepOf_X7_isWithin : GoodIn wsX7_stepOf wsX7_isWithin := goodIn_r _ [10] (by decide +kernel) (by decide +kernel)
set_option maxRecDepth 20000 in
theorem gX7_stepOf_X7_isWithin : GoodIn wsX7_stepOf (va_wsS RX7 56 yX7_isWithin wsX7_isWithin) := goodIn_app (goodIn_of _ (by decide +kernel)) ggX7_stepOf_X7_isWithin
set_option maxRecDepth 20000 in
theorem ggX7_stepOf_X2_side : GoodIn wsX7_stepOf wsX2_side := goodIn_r _ [15, 16, 17, 53, 54, 55] (by decide +kernel) (by decide +kernel)
set_option maxRecDepth 20000 in
theorem gX7_stepOf_X2_side : GoodIn wsX7_stepOf (wsV RX7 113 RX2 yX2_side wsX2_side) := goodIn_app (goodIn_of _ (by decide +kernel)) ggX7_stepOf_X2_side
set_option maxRecDepth 20000 in
theorem ggX7_stepOf_X0_stepsToCome : GoodIn wsX7_stepOf wsX0_stepsToCome := goodIn_r _ [22, 23, 24, 56, 57, 58, 59, 60, 61, 62, 63, 64, 65, 66, 67, 68] (by decide +kernel) (by decide +kernel)
set_option maxRecDepth 20000 in
theorem gX7_stepOf_X0_stepsToCome : GoodIn wsX7_stepOf (wsV RX7 160 RX0 yX0_stepsToCome wsX0_stepsToCome) := goodIn_app (goodIn_of _ (by decide +kernel)) ggX7_stepOf_X0_stepsToCome
set_option maxRecDepth 20000 in
theorem ggX7_stepOf_X0_stepIn : GoodIn wsX7_stepOf wsX0_stepIn := goodIn_r _ [28, 29, 30, 31, 32, 33, 21, 34, 23, 56, 57, 58, 59, 60, 61, 62, 63, 64, 65, 66, 67, 68] (by decide +kernel) (by decide +kernel)
set_option maxRecDepth 20000 in
theorem gX7_stepOf_X0_stepIn : GoodIn wsX7_stepOf (wsV RX7 177 RX0 yX0_stepIn wsX0_stepIn) := goodIn_app (goodIn_of _ (by decide +kernel)) ggX7_stepOf_X0_stepIn
set_option maxRecDepth 20000 in
theorem ggX7_stepOf_X0_stepBy : GoodIn wsX7_stepOf wsX0_stepBy := goodIn_r _ [38, 23, 24, 31, 32, 33, 21, 34, 56, 57, 58, 59, 60, 61, 62, 63, 64, 65, 66, 67, 68] (by decide +kernel) (by decide +kernel)
set_option maxRecDepth 20000 in
theorem gX7_stepOf_X0_stepBy : GoodIn wsX7_stepOf (wsV RX7 180 RX0 yX0_stepBy wsX0_stepBy) := goodIn_app (goodIn_of _ (by decide +kernel)) ggX7_stepOf_X0_stepBy
theorem dX7_stepOf_0 : decode cX7_stepOf 0 = .ok (.iload_n 1, 1) := by decide +kernel
theorem dX7_stepOf_1 : decode cX7_stepOf 1 = .ok (.invokestatic 85, 3) := by decide +kernel
theorem dX7_stepOf_4 : decode cX7_stepOf 4 = .ok (.ifCond .eq 16, 3) := by decide +kernel
theorem dX7_stepOf_7 : decode cX7_stepOf 7 = .ok (.iload_n 2, 1) := by decide +kernel
theorem dX7_stepOf_8 : decode cX7_stepOf 8 = .ok (.ifCond .lt 12, 3) := by decide +kernel
theorem dX7_stepOf_11 : decode cX7_stepOf 11 = .ok (.iload_n 3, 1) := by decide +kernel
theorem dX7_stepOf_12 : decode cX7_stepOf 12 = .ok (.iconst 0, 1) := by decide +kernel
theorem dX7_stepOf_13 : decode cX7_stepOf 13 = .ok (.iconst 1, 1) := by decide +kernel
theorem dX7_stepOf_14 : decode cX7_stepOf 14 = .ok (.invokestatic 56, 3) := by decide +kernel
theorem dX7_stepOf_17 : decode cX7_stepOf 17 = .ok (.ifCond .ne 5, 3) := by decide +kernel
theorem dX7_stepOf_20 : decode cX7_stepOf 20 = .ok (.iconst (-1), 1) := by decide +kernel
theorem dX7_stepOf_21 : decode cX7_stepOf 21 = .ok (.ireturn, 1) := by decide +kernel
theorem dX7_stepOf_22 : decode cX7_stepOf 22 = .ok (.aload_n 0, 1) := by decide +kernel
theorem dX7_stepOf_23 : decode cX7_stepOf 23 = .ok (.getfield 36, 3) := by decide +kernel
theorem dX7_stepOf_26 : decode cX7_stepOf 26 = .ok (.getfield 95, 3) := by decide +kernel
theorem dX7_stepOf_29 : decode cX7_stepOf 29 = .ok (.iload_n 1, 1) := by decide +kernel
theorem dX7_stepOf_30 : decode cX7_stepOf 30 = .ok (.invokevirtual 113, 3) := by decide +kernel
theorem dX7_stepOf_33 : decode cX7_stepOf 33 = .ok (.astore 4, 2) := by decide +kernel
theorem dX7_stepOf_35 : decode cX7_stepOf 35 = .ok (.iload_n 2, 1) := by decide +kernel
theorem dX7_stepOf_36 : decode cX7_stepOf 36 = .ok (.aload 4, 2) := by decide +kernel
theorem dX7_stepOf_38 : decode cX7_stepOf 38 = .ok (.invokevirtual 160, 3) := by decide +kernel
theorem dX7_stepOf_41 : decode cX7_stepOf 41 = .ok (.if_icmp .lt 6, 3) := by decide +kernel
theorem dX7_stepOf_44 : decode cX7_stepOf 44 = .ok (.bipush (-4), 2) := by decide +kernel
theorem dX7_stepOf_46 : decode cX7_stepOf 46 = .ok (.ireturn, 1) := by decide +kernel
theorem dX7_stepOf_47 : decode cX7_stepOf 47 = .ok (.iload_n 3, 1) := by decide +kernel
theorem dX7_stepOf_48 : decode cX7_stepOf 48 = .ok (.ifCond .ne 12, 3) := by decide +kernel
theorem dX7_stepOf_51 : decode cX7_stepOf 51 = .ok (.aload 4, 2) := by decide +kernel
theorem dX7_stepOf_53 : decode cX7_stepOf 53 = .ok (.iload_n 2, 1) := by decide +kernel
theorem dX7_stepOf_54 : decode cX7_stepOf 54 = .ok (.invokevirtual 177, 3) := by decide +kernel
theorem dX7_stepOf_57 : decode cX7_stepOf 57 = .ok (.goto 12, 3) := by decide +kernel
theorem dX7_stepOf_60 : decode cX7_stepOf 60 = .ok (.aload 4, 2) := by decide +kernel
theorem dX7_stepOf_62 : decode cX7_stepOf 62 = .ok (.iload_n 2, 1) := by decide +kernel
theorem dX7_stepOf_63 : decode cX7_stepOf 63 = .ok (.invokevirtual 180, 3) := by decide +kernel
theorem dX7_stepOf_66 : decode cX7_stepOf 66 = .ok (.ldc 144, 2) := by decide +kernel
theorem dX7_stepOf_68 : decode cX7_stepOf 68 = .ok (.iadd, 1) := by decide +kernel
theorem dX7_stepOf_69 : decode cX7_stepOf 69 = .ok (.ireturn, 1) := by decide +kernel
set_option maxRecDepth 20000 in
theorem ggX7_stop_X7_isSpeed : GoodIn wsX7_stop wsX7_isSpeed := goodIn_r _ [6, 7, 8, 5, 9] (by decide +kernel) (by decide +kernel)
set_option maxRecDepth 20000 in
theorem gX7_stop_X7_isSpeed : GoodIn wsX7_stop (va_wsS RX7 89 yX7_isSpeed wsX7_isSpeed) := goodIn_app (goodIn_of _ (by decide +kernel)) ggX7_stop_X7_isSpeed
set_option maxRecDepth 20000 in
theorem ggX7_stop_X7_wayToStop : GoodIn wsX7_stop wsX7_wayToStop := goodIn_r _ [12, 13, 14, 15, 16] (by decide +kernel) (by decide +kernel)
set_option maxRecDepth 20000 in
theorem gX7_stop_X7_wayToStop : GoodIn wsX7_stop (va_wsS RX7 167 yX7_wayToStop wsX7_wayToStop) := goodIn_app (goodIn_of _ (by decide +kernel)) ggX7_stop_X7_wayToStop
theorem dX7_stop_0 : decode cX7_stop 0 = .ok (.iload_n 1, 1) := by decide +kernel
theorem dX7_stop_1 : decode cX7_stop 1 = .ok (.invokestatic 89, 3) := by decide +kernel
theorem dX7_stop_4 : decode cX7_stop 4 = .ok (.ifCond .eq 17, 3) := by decide +kernel
theorem dX7_stop_7 : decode cX7_stop 7 = .ok (.iload_n 1, 1) := by decide +kernel
theorem dX7_stop_8 : decode cX7_stop 8 = .ok (.aload_n 0, 1) := by decide +kernel
theorem dX7_stop_9 : decode cX7_stop 9 = .ok (.getfield 26, 3) := by decide +kernel
theorem dX7_stop_12 : decode cX7_stop 12 = .ok (.getfield 164, 3) := by decide +kernel
theorem dX7_stop_15 : decode cX7_stop 15 = .ok (.invokestatic 167, 3) := by decide +kernel
theorem dX7_stop_18 : decode cX7_stop 18 = .ok (.goto 4, 3) := by decide +kernel
theorem dX7_stop_21 : decode cX7_stop 21 = .ok (.iconst (-1), 1) := by decide +kernel
theorem dX7_stop_22 : decode cX7_stop 22 = .ok (.ireturn, 1) := by decide +kernel
set_option maxRecDepth 20000 in
theorem ggX7_half_X7_isRope : GoodIn wsX7_half wsX7_isRope := goodIn_r _ [4, 5, 6, 3, 7] (by decide +kernel) (by decide +kernel)
set_option maxRecDepth 20000 in
theorem gX7_half_X7_isRope : GoodIn wsX7_half (va_wsS RX7 106 yX7_isRope wsX7_isRope) := goodIn_app (goodIn_of _ (by decide +kernel)) ggX7_half_X7_isRope
set_option maxRecDepth 20000 in
theorem ggX7_half_X7_halfSwing : GoodIn wsX7_half wsX7_halfSwing := goodIn_r _ [10] (by decide +kernel) (by decide +kernel)
set_option maxRecDepth 20000 in
theorem gX7_half_X7_halfSwing : GoodIn wsX7_half (va_wsS RX7 170 yX7_halfSwing wsX7_halfSwing) := goodIn_app (goodIn_of _ (by decide +kernel)) ggX7_half_X7_halfSwing
theorem dX7_half_0 : decode cX7_half 0 = .ok (.iload_n 1, 1) := by decide +kernel
theorem dX7_half_1 : decode cX7_half 1 = .ok (.invokestatic 106, 3) := by decide +kernel
theorem dX7_half_4 : decode cX7_half 4 = .ok (.ifCond .eq 10, 3) := by decide +kernel
theorem dX7_half_7 : decode cX7_half 7 = .ok (.iload_n 1, 1) := by decide +kernel
theorem dX7_half_8 : decode cX7_half 8 = .ok (.invokestatic 170, 3) := by decide +kernel
theorem dX7_half_11 : decode cX7_half 11 = .ok (.goto 4, 3) := by decide +kernel
theorem dX7_half_14 : decode cX7_half 14 = .ok (.iconst (-1), 1) := by decide +kernel
theorem dX7_half_15 : decode cX7_half 15 = .ok (.ireturn, 1) := by decide +kernel
set_option maxRecDepth 20000 in
theorem ggX7_spot_X7_isCrane : GoodIn wsX7_spot wsX7_isCrane := goodIn_r _ [6] (by decide +kernel) (by decide +kernel)
set_option maxRecDepth 20000 in
theorem gX7_spot_X7_isCrane : GoodIn wsX7_spot (va_wsS RX7 85 yX7_isCrane wsX7_isCrane) := goodIn_app (goodIn_of _ (by decide +kernel)) ggX7_spot_X7_isCrane
set_option maxRecDepth 20000 in
theorem ggX7_spot_X7_isWithin : GoodIn wsX7_spot wsX7_isWithin := goodIn_r _ [9] (by decide +kernel) (by decide +kernel)
set_option maxRecDepth 20000 in
theorem gX7_spot_X7_isWithin : GoodIn wsX7_spot (va_wsS RX7 56 yX7_isWithin wsX7_isWithin) := goodIn_app (goodIn_of _ (by decide +kernel)) ggX7_spot_X7_isWithin
set_option maxRecDepth 20000 in
theorem ggX7_spot_X5_spotsOf : GoodIn wsX7_spot wsX5_spotsOf := goodIn_r _ [14, 15, 16, 50, 51, 52, 53] (by decide +kernel) (by decide +kernel)
set_option maxRecDepth 20000 in
theorem gX7_spot_X5_spotsOf : GoodIn wsX7_spot (wsV RX7 183 RX5 yX5_spotsOf wsX5_spotsOf) := goodIn_app (goodIn_of _ (by decide +kernel)) ggX7_spot_X5_spotsOf
set_option maxRecDepth 20000 in
theorem ggX7_spot_X3_blockAt : GoodIn wsX7_spot wsX3_blockAt := goodIn_r _ [21, 22, 23, 24, 20, 25, 26, 47, 48, 49] (by decide +kernel) (by decide +kernel)
set_option maxRecDepth 20000 in
theorem gX7_spot_X3_blockAt : GoodIn wsX7_spot (wsV RX7 192 RX3 yX3_blockAt wsX3_blockAt) := goodIn_app (goodIn_of _ (by decide +kernel)) ggX7_spot_X3_blockAt
set_option maxRecDepth 20000 in
theorem ggX7_spot_X3_floorAt : GoodIn wsX7_spot wsX3_floorAt := goodIn_r _ [30, 22, 23, 24, 20, 25, 26, 47, 48, 49] (by decide +kernel) (by decide +kernel)
set_option maxRecDepth 20000 in
theorem gX7_spot_X3_floorAt : GoodIn wsX7_spot (wsV RX7 195 RX3 yX3_floorAt wsX3_floorAt) := goodIn_app (goodIn_of _ (by decide +kernel)) ggX7_spot_X3_floorAt
set_option maxRecDepth 20000 in
theorem ggX7_spot_X3_ticksAt : GoodIn wsX7_spot wsX3_ticksAt := goodIn_r _ [34, 35, 36, 47, 48, 49] (by decide +kernel) (by decide +kernel)
set_option maxRecDepth 20000 in
theorem gX7_spot_X3_ticksAt : GoodIn wsX7_spot (wsV RX7 198 RX3 yX3_ticksAt wsX3_ticksAt) := goodIn_app (goodIn_of _ (by decide +kernel)) ggX7_spot_X3_ticksAt
theorem dX7_spot_0 : decode cX7_spot 0 = .ok (.iload_n 1, 1) := by decide +kernel
theorem dX7_spot_1 : decode cX7_spot 1 = .ok (.invokestatic 85, 3) := by decide +kernel
theorem dX7_spot_4 : decode cX7_spot 4 = .ok (.ifCond .eq 17, 3) := by decide +kernel
theorem dX7_spot_7 : decode cX7_spot 7 = .ok (.iload_n 2, 1) := by decide +kernel
theorem dX7_spot_8 : decode cX7_spot 8 = .ok (.iconst (-1), 1) := by decide +kernel
theorem dX7_spot_9 : decode cX7_spot 9 = .ok (.if_icmp .lt 12, 3) := by decide +kernel
theorem dX7_spot_12 : decode cX7_spot 12 = .ok (.iload_n 3, 1) := by decide +kernel
theorem dX7_spot_13 : decode cX7_spot 13 = .ok (.iconst 0, 1) := by decide +kernel
theorem dX7_spot_14 : decode cX7_spot 14 = .ok (.iconst 2, 1) := by decide +kernel
theorem dX7_spot_15 : decode cX7_spot 15 = .ok (.invokestatic 56, 3) := by decide +kernel
theorem dX7_spot_18 : decode cX7_spot 18 = .ok (.ifCond .ne 5, 3) := by decide +kernel
theorem dX7_spot_21 : decode cX7_spot 21 = .ok (.iconst (-1), 1) := by decide +kernel
theorem dX7_spot_22 : decode cX7_spot 22 = .ok (.ireturn, 1) := by decide +kernel
theorem dX7_spot_23 : decode cX7_spot 23 = .ok (.aload_n 0, 1) := by decide +kernel
theorem dX7_spot_24 : decode cX7_spot 24 = .ok (.getfield 36, 3) := by decide +kernel
theorem dX7_spot_27 : decode cX7_spot 27 = .ok (.iload_n 1, 1) := by decide +kernel
theorem dX7_spot_28 : decode cX7_spot 28 = .ok (.invokevirtual 183, 3) := by decide +kernel
theorem dX7_spot_31 : decode cX7_spot 31 = .ok (.astore 4, 2) := by decide +kernel
theorem dX7_spot_33 : decode cX7_spot 33 = .ok (.iload_n 2, 1) := by decide +kernel
theorem dX7_spot_34 : decode cX7_spot 34 = .ok (.iconst (-1), 1) := by decide +kernel
theorem dX7_spot_35 : decode cX7_spot 35 = .ok (.if_icmp .ne 9, 3) := by decide +kernel
theorem dX7_spot_38 : decode cX7_spot 38 = .ok (.aload 4, 2) := by decide +kernel
theorem dX7_spot_40 : decode cX7_spot 40 = .ok (.getfield 187, 3) := by decide +kernel
theorem dX7_spot_43 : decode cX7_spot 43 = .ok (.ireturn, 1) := by decide +kernel
theorem dX7_spot_44 : decode cX7_spot 44 = .ok (.iload_n 2, 1) := by decide +kernel
theorem dX7_spot_45 : decode cX7_spot 45 = .ok (.aload 4, 2) := by decide +kernel
theorem dX7_spot_47 : decode cX7_spot 47 = .ok (.getfield 187, 3) := by decide +kernel
theorem dX7_spot_50 : decode cX7_spot 50 = .ok (.if_icmp .lt 6, 3) := by decide +kernel
theorem dX7_spot_53 : decode cX7_spot 53 = .ok (.bipush (-4), 2) := by decide +kernel
theorem dX7_spot_55 : decode cX7_spot 55 = .ok (.ireturn, 1) := by decide +kernel
theorem dX7_spot_56 : decode cX7_spot 56 = .ok (.iload_n 3, 1) := by decide +kernel
theorem dX7_spot_57 : decode cX7_spot 57 = .ok (.lookupswitch 41 #[(0, 27), (1, 34)], 27) := by decide +kernel
theorem dX7_spot_84 : decode cX7_spot 84 = .ok (.aload 4, 2) := by decide +kernel
theorem dX7_spot_86 : decode cX7_spot 86 = .ok (.iload_n 2, 1) := by decide +kernel
theorem dX7_spot_87 : decode cX7_spot 87 = .ok (.invokevirtual 192, 3) := by decide +kernel
theorem dX7_spot_90 : decode cX7_spot 90 = .ok (.ireturn, 1) := by decide +kernel
theorem dX7_spot_91 : decode cX7_spot 91 = .ok (.aload 4, 2) := by decide +kernel
theorem dX7_spot_93 : decode cX7_spot 93 = .ok (.iload_n 2, 1) := by decide +kernel
theorem dX7_spot_94 : decode cX7_spot 94 = .ok (.invokevirtual 195, 3) := by decide +kernel
theorem dX7_spot_97 : decode cX7_spot 97 = .ok (.ireturn, 1) := by decide +kernel
theorem dX7_spot_98 : decode cX7_spot 98 = .ok (.aload 4, 2) := by decide +kernel
theorem dX7_spot_100 : decode cX7_spot 100 = .ok (.iload_n 2, 1) := by decide +kernel
theorem dX7_spot_101 : decode cX7_spot 101 = .ok (.invokevirtual 198, 3) := by decide +kernel
theorem dX7_spot_104 : decode cX7_spot 104 = .ok (.ireturn, 1) := by decide +kernel
set_option maxRecDepth 20000 in
theorem ggX7_been_X7_isCrane : GoodIn wsX7_been wsX7_isCrane := goodIn_r _ [5] (by decide +kernel) (by decide +kernel)
set_option maxRecDepth 20000 in
theorem gX7_been_X7_isCrane : GoodIn wsX7_been (va_wsS RX7 85 yX7_isCrane wsX7_isCrane) := goodIn_app (goodIn_of _ (by decide +kernel)) ggX7_been_X7_isCrane
set_option maxRecDepth 20000 in
theorem ggX7_been_X7_isWithin : GoodIn wsX7_been wsX7_isWithin := goodIn_r _ [8] (by decide +kernel) (by decide +kernel)
set_option maxRecDepth 20000 in
theorem gX7_been_X7_isWithin : GoodIn wsX7_been (va_wsS RX7 56 yX7_isWithin wsX7_isWithin) := goodIn_app (goodIn_of _ (by decide +kernel)) ggX7_been_X7_isWithin
set_option maxRecDepth 20000 in
theorem ggX7_been_X5_spotsOf : GoodIn wsX7_been wsX5_spotsOf := goodIn_r _ [13, 14, 15, 50, 51, 52, 53] (by decide +kernel) (by decide +kernel)
set_option maxRecDepth 20000 in
theorem gX7_been_X5_spotsOf : GoodIn wsX7_been (wsV RX7 183 RX5 yX5_spotsOf wsX5_spotsOf) := goodIn_app (goodIn_of _ (by decide +kernel)) ggX7_been_X5_spotsOf
set_option maxRecDepth 20000 in
theorem ggX7_been_X3_ticksIn : GoodIn wsX7_been wsX3_ticksIn := goodIn_r _ [20, 21, 22, 23, 19, 24, 25, 26, 27, 28, 29, 30, 31, 32, 33, 34, 35, 36, 37, 38, 39, 54, 55, 56] (by decide +kernel) (by decide +kernel)
set_option maxRecDepth 20000 in
theorem gX7_been_X3_ticksIn : GoodIn wsX7_been (wsV RX7 201 RX3 yX3_ticksIn wsX3_ticksIn) := goodIn_app (goodIn_of _ (by decide +kernel)) ggX7_been_X3_ticksIn
theorem dX7_been_0 : decode cX7_been 0 = .ok (.iload_n 1, 1) := by decide +kernel
theorem dX7_been_1 : decode cX7_been 1 = .ok (.invokestatic 85, 3) := by decide +kernel
theorem dX7_been_4 : decode cX7_been 4 = .ok (.ifCond .eq 23, 3) := by decide +kernel
theorem dX7_been_7 : decode cX7_been 7 = .ok (.iload_n 2, 1) := by decide +kernel
theorem dX7_been_8 : decode cX7_been 8 = .ok (.iconst 0, 1) := by decide +kernel
theorem dX7_been_9 : decode cX7_been 9 = .ok (.bipush 99, 2) := by decide +kernel
theorem dX7_been_11 : decode cX7_been 11 = .ok (.invokestatic 56, 3) := by decide +kernel
theorem dX7_been_14 : decode cX7_been 14 = .ok (.ifCond .eq 13, 3) := by decide +kernel
theorem dX7_been_17 : decode cX7_been 17 = .ok (.iload_n 3, 1) := by decide +kernel
theorem dX7_been_18 : decode cX7_been 18 = .ok (.iconst 0, 1) := by decide +kernel
theorem dX7_been_19 : decode cX7_been 19 = .ok (.bipush 99, 2) := by decide +kernel
theorem dX7_been_21 : decode cX7_been 21 = .ok (.invokestatic 56, 3) := by decide +kernel
theorem dX7_been_24 : decode cX7_been 24 = .ok (.ifCond .ne 5, 3) := by decide +kernel
theorem dX7_been_27 : decode cX7_been 27 = .ok (.iconst (-1), 1) := by decide +kernel
theorem dX7_been_28 : decode cX7_been 28 = .ok (.ireturn, 1) := by decide +kernel
theorem dX7_been_29 : decode cX7_been 29 = .ok (.aload_n 0, 1) := by decide +kernel
theorem dX7_been_30 : decode cX7_been 30 = .ok (.getfield 36, 3) := by decide +kernel
theorem dX7_been_33 : decode cX7_been 33 = .ok (.iload_n 1, 1) := by decide +kernel
theorem dX7_been_34 : decode cX7_been 34 = .ok (.invokevirtual 183, 3) := by decide +kernel
theorem dX7_been_37 : decode cX7_been 37 = .ok (.iload_n 2, 1) := by decide +kernel
theorem dX7_been_38 : decode cX7_been 38 = .ok (.iload_n 3, 1) := by decide +kernel
theorem dX7_been_39 : decode cX7_been 39 = .ok (.invokevirtual 201, 3) := by decide +kernel
theorem dX7_been_42 : decode cX7_been 42 = .ok (.ireturn, 1) := by decide +kernel
set_option maxRecDepth 20000 in
theorem ggX7_ahead_X7_isWithin : GoodIn wsX7_ahead wsX7_isWithin := goodIn_r _ [21] (by decide +kernel) (by decide +kernel)
set_option maxRecDepth 20000 in
theorem gX7_ahead_X7_isWithin : GoodIn wsX7_ahead (va_wsS RX7 56 yX7_isWithin wsX7_isWithin) := goodIn_app (goodIn_of _ (by decide +kernel)) ggX7_ahead_X7_isWithin
set_option maxRecDepth 20000 in
theorem ggX7_ahead_X7_isCrane : GoodIn wsX7_ahead wsX7_isCrane := goodIn_r _ [24] (by decide +kernel) (by decide +kernel)
set_option maxRecDepth 20000 in
theorem gX7_ahead_X7_isCrane : GoodIn wsX7_ahead (va_wsS RX7 85 yX7_isCrane wsX7_isCrane) := goodIn_app (goodIn_of _ (by decide +kernel)) ggX7_ahead_X7_isCrane
set_option maxRecDepth 20000 in
theorem ggX7_ahead_X2_copyFrom : GoodIn wsX7_ahead wsX2_copyFrom := goodIn_r _ [29, 30, 31, 32, 33, 34, 35, 36, 37, 38, 39, 40, 41, 42, 43, 44, 45, 46, 47, 48, 49, 50, 135, 136, 137, 122, 123, 124, 125, 126, 127, 128, 129, 130, 131, 132, 133, 134] (by decide +kernel) (by decide +kernel)
set_option maxRecDepth 20000 in
theorem gX7_ahead_X2_copyFrom : GoodIn wsX7_ahead (wsV RX7 204 RX2 yX2_copyFrom wsX2_copyFrom) := goodIn_app (goodIn_of _ (by decide +kernel)) ggX7_ahead_X2_copyFrom
set_option maxRecDepth 20000 in
theorem ggX7_ahead_X2_side : GoodIn wsX7_ahead wsX2_side := goodIn_r _ [54, 30, 31, 135, 136, 137] (by decide +kernel) (by decide +kernel)
set_option maxRecDepth 20000 in
theorem gX7_ahead_X2_side : GoodIn wsX7_ahead (wsV RX7 113 RX2 yX2_side wsX2_side) := goodIn_app (goodIn_of _ (by decide +kernel)) ggX7_ahead_X2_side
set_option maxRecDepth 20000 in
theorem ggX7_ahead_X2_goOn : GoodIn wsX7_ahead wsX2_goOn := goodIn_r _ [58, 30, 59, 31, 60, 61, 62, 32, 63, 64, 65, 66, 28, 67, 68, 69, 70, 71, 36, 72, 73, 50, 39, 38, 74, 75, 76, 77, 46, 48, 47, 44, 49, 78, 79, 80, 81, 82, 83, 84, 85, 86, 41, 87, 11, 8, 12, 88, 20, 89, 90, 91, 92, 10, 93, 94, 6, 7, 9, 95, 96, 97, 98, 99, 100, 101, 102, 103, 40, 42, 43, 104, 105, 106, 107, 45, 135, 136, 137, 122, 123, 124, 125, 126, 127, 128, 129, 130, 131, 132, 133, 134, 138, 139, 140, 141, 142, 143, 144] (by decide +kernel) (by decide +kernel)
set_option maxRecDepth 20000 in
theorem gX7_ahead_X2_goOn : GoodIn wsX7_ahead (wsV RX7 208 RX2 yX2_goOn wsX2_goOn) := goodIn_app (goodIn_of _ (by decide +kernel)) ggX7_ahead_X2_goOn
theorem dX7_ahead_0 : decode cX7_ahead 0 = .ok (.iload_n 1, 1) := by decide +kernel
theorem dX7_ahead_1 : decode cX7_ahead 1 = .ok (.iconst 1, 1) := by decide +kernel
theorem dX7_ahead_2 : decode cX7_ahead 2 = .ok (.bipush 60, 2) := by decide +kernel
theorem dX7_ahead_4 : decode cX7_ahead 4 = .ok (.invokestatic 56, 3) := by decide +kernel
theorem dX7_ahead_7 : decode cX7_ahead 7 = .ok (.ifCond .eq 19, 3) := by decide +kernel
theorem dX7_ahead_10 : decode cX7_ahead 10 = .ok (.iload_n 2, 1) := by decide +kernel
theorem dX7_ahead_11 : decode cX7_ahead 11 = .ok (.invokestatic 85, 3) := by decide +kernel
theorem dX7_ahead_14 : decode cX7_ahead 14 = .ok (.ifCond .eq 12, 3) := by decide +kernel
theorem dX7_ahead_17 : decode cX7_ahead 17 = .ok (.iload_n 3, 1) := by decide +kernel
theorem dX7_ahead_18 : decode cX7_ahead 18 = .ok (.iconst 0, 1) := by decide +kernel
theorem dX7_ahead_19 : decode cX7_ahead 19 = .ok (.iconst 5, 1) := by decide +kernel
theorem dX7_ahead_20 : decode cX7_ahead 20 = .ok (.invokestatic 56, 3) := by decide +kernel
theorem dX7_ahead_23 : decode cX7_ahead 23 = .ok (.ifCond .ne 5, 3) := by decide +kernel
theorem dX7_ahead_26 : decode cX7_ahead 26 = .ok (.iconst (-1), 1) := by decide +kernel
theorem dX7_ahead_27 : decode cX7_ahead 27 = .ok (.ireturn, 1) := by decide +kernel
theorem dX7_ahead_28 : decode cX7_ahead 28 = .ok (.aload_n 0, 1) := by decide +kernel
theorem dX7_ahead_29 : decode cX7_ahead 29 = .ok (.getfield 19, 3) := by decide +kernel
theorem dX7_ahead_32 : decode cX7_ahead 32 = .ok (.aload_n 0, 1) := by decide +kernel
theorem dX7_ahead_33 : decode cX7_ahead 33 = .ok (.getfield 36, 3) := by decide +kernel
theorem dX7_ahead_36 : decode cX7_ahead 36 = .ok (.getfield 95, 3) := by decide +kernel
theorem dX7_ahead_39 : decode cX7_ahead 39 = .ok (.invokevirtual 204, 3) := by decide +kernel
theorem dX7_ahead_42 : decode cX7_ahead 42 = .ok (.aload_n 0, 1) := by decide +kernel
theorem dX7_ahead_43 : decode cX7_ahead 43 = .ok (.getfield 19, 3) := by decide +kernel
theorem dX7_ahead_46 : decode cX7_ahead 46 = .ok (.iload_n 2, 1) := by decide +kernel
theorem dX7_ahead_47 : decode cX7_ahead 47 = .ok (.invokevirtual 113, 3) := by decide +kernel
theorem dX7_ahead_50 : decode cX7_ahead 50 = .ok (.astore 4, 2) := by decide +kernel
theorem dX7_ahead_52 : decode cX7_ahead 52 = .ok (.iconst 0, 1) := by decide +kernel
theorem dX7_ahead_53 : decode cX7_ahead 53 = .ok (.istore 5, 2) := by decide +kernel
theorem dX7_ahead_55 : decode cX7_ahead 55 = .ok (.iconst 0, 1) := by decide +kernel
theorem dX7_ahead_56 : decode cX7_ahead 56 = .ok (.istore 6, 2) := by decide +kernel
theorem dX7_ahead_58 : decode cX7_ahead 58 = .ok (.iconst 0, 1) := by decide +kernel
theorem dX7_ahead_59 : decode cX7_ahead 59 = .ok (.istore 7, 2) := by decide +kernel
theorem dX7_ahead_61 : decode cX7_ahead 61 = .ok (.iload 7, 2) := by decide +kernel
theorem dX7_ahead_63 : decode cX7_ahead 63 = .ok (.iload_n 1, 1) := by decide +kernel
theorem dX7_ahead_64 : decode cX7_ahead 64 = .ok (.if_icmp .ge 54, 3) := by decide +kernel
theorem dX7_ahead_67 : decode cX7_ahead 67 = .ok (.aload_n 0, 1) := by decide +kernel
theorem dX7_ahead_68 : decode cX7_ahead 68 = .ok (.getfield 19, 3) := by decide +kernel
theorem dX7_ahead_71 : decode cX7_ahead 71 = .ok (.aload_n 0, 1) := by decide +kernel
theorem dX7_ahead_72 : decode cX7_ahead 72 = .ok (.getfield 26, 3) := by decide +kernel
theorem dX7_ahead_75 : decode cX7_ahead 75 = .ok (.invokevirtual 208, 3) := by decide +kernel
theorem dX7_ahead_78 : decode cX7_ahead 78 = .ok (.pop, 1) := by decide +kernel
theorem dX7_ahead_79 : decode cX7_ahead 79 = .ok (.iload 5, 2) := by decide +kernel
theorem dX7_ahead_81 : decode cX7_ahead 81 = .ok (.aload 4, 2) := by decide +kernel
theorem dX7_ahead_83 : decode cX7_ahead 83 = .ok (.getfield 148, 3) := by decide +kernel
theorem dX7_ahead_86 : decode cX7_ahead 86 = .ok (.invokestatic 209, 3) := by decide +kernel
theorem dX7_ahead_89 : decode cX7_ahead 89 = .ok (.invokestatic 214, 3) := by decide +kernel
theorem dX7_ahead_92 : decode cX7_ahead 92 = .ok (.istore 5, 2) := by decide +kernel
theorem dX7_ahead_94 : decode cX7_ahead 94 = .ok (.iload 6, 2) := by decide +kernel
theorem dX7_ahead_96 : decode cX7_ahead 96 = .ok (.aload 4, 2) := by decide +kernel
theorem dX7_ahead_98 : decode cX7_ahead 98 = .ok (.getfield 217, 3) := by decide +kernel
theorem dX7_ahead_101 : decode cX7_ahead 101 = .ok (.ifCond .eq 7, 3) := by decide +kernel
theorem dX7_ahead_104 : decode cX7_ahead 104 = .ok (.iconst 1, 1) := by decide +kernel
theorem dX7_ahead_105 : decode cX7_ahead 105 = .ok (.goto 4, 3) := by decide +kernel
theorem dX7_ahead_108 : decode cX7_ahead 108 = .ok (.iconst 0, 1) := by decide +kernel
theorem dX7_ahead_109 : decode cX7_ahead 109 = .ok (.iadd, 1) := by decide +kernel
theorem dX7_ahead_110 : decode cX7_ahead 110 = .ok (.istore 6, 2) := by decide +kernel
theorem dX7_ahead_112 : decode cX7_ahead 112 = .ok (.iinc 7 1, 3) := by decide +kernel
theorem dX7_ahead_115 : decode cX7_ahead 115 = .ok (.goto (-54), 3) := by decide +kernel
theorem dX7_ahead_118 : decode cX7_ahead 118 = .ok (.iload_n 3, 1) := by decide +kernel
theorem dX7_ahead_119 : decode cX7_ahead 119 = .ok (.tableswitch 66 0 4 #[33, 39, 48, 54, 63], 33) := by decide +kernel
theorem dX7_ahead_152 : decode cX7_ahead 152 = .ok (.aload 4, 2) := by decide +kernel
theorem dX7_ahead_154 : decode cX7_ahead 154 = .ok (.getfield 138, 3) := by decide +kernel
theorem dX7_ahead_157 : decode cX7_ahead 157 = .ok (.ireturn, 1) := by decide +kernel
theorem dX7_ahead_158 : decode cX7_ahead 158 = .ok (.aload 4, 2) := by decide +kernel
theorem dX7_ahead_160 : decode cX7_ahead 160 = .ok (.getfield 141, 3) := by decide +kernel
theorem dX7_ahead_163 : decode cX7_ahead 163 = .ok (.ldc 144, 2) := by decide +kernel
theorem dX7_ahead_165 : decode cX7_ahead 165 = .ok (.iadd, 1) := by decide +kernel
theorem dX7_ahead_166 : decode cX7_ahead 166 = .ok (.ireturn, 1) := by decide +kernel
theorem dX7_ahead_167 : decode cX7_ahead 167 = .ok (.aload 4, 2) := by decide +kernel
theorem dX7_ahead_169 : decode cX7_ahead 169 = .ok (.getfield 145, 3) := by decide +kernel
theorem dX7_ahead_172 : decode cX7_ahead 172 = .ok (.ireturn, 1) := by decide +kernel
theorem dX7_ahead_173 : decode cX7_ahead 173 = .ok (.aload 4, 2) := by decide +kernel
theorem dX7_ahead_175 : decode cX7_ahead 175 = .ok (.getfield 148, 3) := by decide +kernel
theorem dX7_ahead_178 : decode cX7_ahead 178 = .ok (.ldc 144, 2) := by decide +kernel
theorem dX7_ahead_180 : decode cX7_ahead 180 = .ok (.iadd, 1) := by decide +kernel
theorem dX7_ahead_181 : decode cX7_ahead 181 = .ok (.ireturn, 1) := by decide +kernel
theorem dX7_ahead_182 : decode cX7_ahead 182 = .ok (.iload 5, 2) := by decide +kernel
theorem dX7_ahead_184 : decode cX7_ahead 184 = .ok (.ireturn, 1) := by decide +kernel
theorem dX7_ahead_185 : decode cX7_ahead 185 = .ok (.iload 6, 2) := by decide +kernel
theorem dX7_ahead_187 : decode cX7_ahead 187 = .ok (.ireturn, 1) := by decide +kernel
set_option maxRecDepth 20000 in
theorem ggX7_quiet_X7_isCrane : GoodIn wsX7_quiet wsX7_isCrane := goodIn_r _ [8] (by decide +kernel) (by decide +kernel)
set_option maxRecDepth 20000 in
theorem gX7_quiet_X7_isCrane : GoodIn wsX7_quiet (va_wsS RX7 85 yX7_isCrane wsX7_isCrane) := goodIn_app (goodIn_of _ (by decide +kernel)) ggX7_quiet_X7_isCrane
set_option maxRecDepth 20000 in
theorem ggX7_quiet_X2_copyFrom : GoodIn wsX7_quiet wsX2_copyFrom := goodIn_r _ [13, 14, 15, 16, 17, 18, 19, 20, 21, 22, 23, 24, 25, 26, 27, 28, 29, 30, 31, 32, 33, 34, 149, 150, 151, 152, 153, 154, 155, 156, 157, 158, 159, 160, 161, 162, 163, 164] (by decide +kernel) (by decide +kernel)
set_option maxRecDepth 20000 in
theorem gX7_quiet_X2_copyFrom : GoodIn wsX7_quiet (wsV RX7 204 RX2 yX2_copyFrom wsX2_copyFrom) := goodIn_app (goodIn_of _ (by decide +kernel)) ggX7_quiet_X2_copyFrom
set_option maxRecDepth 20000 in
theorem ggX7_quiet_X2_tellAtOnce : GoodIn wsX7_quiet wsX2_tellAtOnce := goodIn_r _ [38, 14, 15, 39, 40, 41, 12, 42, 43, 44, 45, 46, 16, 47, 48, 49, 20, 50, 28, 51, 52, 53, 54, 30, 31, 32, 33, 55, 56, 57, 58, 59, 60, 61, 62, 149, 150, 151, 152, 153, 154, 155, 156, 157, 158, 159, 160, 161, 162, 163, 164] (by decide +kernel) (by decide +kernel)
set_option maxRecDepth 20000 in
theorem gX7_quiet_X2_tellAtOnce : GoodIn wsX7_quiet (wsV RX7 98 RX2 yX2_tellAtOnce wsX2_tellAtOnce) := goodIn_app (goodIn_of _ (by decide +kernel)) ggX7_quiet_X2_tellAtOnce
set_option maxRecDepth 20000 in
theorem ggX7_quiet_X2_side : GoodIn wsX7_quiet wsX2_side := goodIn_r _ [66, 14, 15, 149, 150, 151] (by decide +kernel) (by decide +kernel)
set_option maxRecDepth 20000 in
theorem gX7_quiet_X2_side : GoodIn wsX7_quiet (wsV RX7 113 RX2 yX2_side wsX2_side) := goodIn_app (goodIn_of _ (by decide +kernel)) ggX7_quiet_X2_side
set_option maxRecDepth 20000 in
theorem ggX7_quiet_X0_isQuiet : GoodIn wsX7_quiet wsX0_isQuiet := goodIn_r _ [70, 23, 28, 26, 71, 72, 73, 74, 27, 75, 76, 77, 20, 78, 31, 33, 152, 153, 154, 155, 156, 157, 158, 159, 160, 161, 162, 163, 164] (by decide +kernel) (by decide +kernel)
set_option maxRecDepth 20000 in
theorem gX7_quiet_X0_isQuiet : GoodIn wsX7_quiet (wsV RX7 174 RX0 yX0_isQuiet wsX0_isQuiet) := goodIn_app (goodIn_of _ (by decide +kernel)) ggX7_quiet_X0_isQuiet
set_option maxRecDepth 20000 in
theorem ggX7_quiet_X2_goOn : GoodIn wsX7_quiet wsX2_goOn := goodIn_r _ [82, 14, 83, 15, 84, 85, 86, 16, 87, 88, 89, 90, 12, 91, 92, 93, 94, 95, 20, 96, 97, 34, 23, 22, 98, 99, 100, 101, 30, 32, 31, 28, 33, 102, 103, 104, 105, 106, 107, 108, 109, 110, 25, 111, 112, 73, 113, 114, 7, 115, 116, 117, 118, 119, 120, 121, 122, 72, 74, 123, 124, 125, 126, 71, 127, 128, 129, 130, 24, 26, 27, 131, 132, 133, 134, 29, 149, 150, 151, 152, 153, 154, 155, 156, 157, 158, 159, 160, 161, 162, 163, 164, 165, 166, 167, 168, 169, 170, 171] (by decide +kernel) (by decide +kernel)
set_option maxRecDepth 20000 in
theorem gX7_quiet_X2_goOn : GoodIn wsX7_quiet (wsV RX7 208 RX2 yX2_goOn wsX2_goOn) := goodIn_app (goodIn_of _ (by decide +kernel)) ggX7_quiet_X2_goOn
theorem dX7_quiet_0 : decode cX7_quiet 0 = .ok (.iload_n 1, 1) := by decide +kernel
theorem dX7_quiet_1 : decode cX7_quiet 1 = .ok (.invokestatic 85, 3) := by decide +kernel
theorem dX7_quiet_4 : decode cX7_quiet 4 = .ok (.ifCond .ne 5, 3) := by decide +kernel
theorem dX7_quiet_7 : decode cX7_quiet 7 = .ok (.iconst (-1), 1) := by decide +kernel
theorem dX7_quiet_8 : decode cX7_quiet 8 = .ok (.ireturn, 1) := by decide +kernel
theorem dX7_quiet_9 : decode cX7_quiet 9 = .ok (.aload_n 0, 1) := by decide +kernel
theorem dX7_quiet_10 : decode cX7_quiet 10 = .ok (.getfield 19, 3) := by decide +kernel
theorem dX7_quiet_13 : decode cX7_quiet 13 = .ok (.aload_n 0, 1) := by decide +kernel
theorem dX7_quiet_14 : decode cX7_quiet 14 = .ok (.getfield 36, 3) := by decide +kernel
theorem dX7_quiet_17 : decode cX7_quiet 17 = .ok (.getfield 95, 3) := by decide +kernel
theorem dX7_quiet_20 : decode cX7_quiet 20 = .ok (.invokevirtual 204, 3) := by decide +kernel
theorem dX7_quiet_23 : decode cX7_quiet 23 = .ok (.aload_n 0, 1) := by decide +kernel
theorem dX7_quiet_24 : decode cX7_quiet 24 = .ok (.getfield 19, 3) := by decide +kernel
theorem dX7_quiet_27 : decode cX7_quiet 27 = .ok (.iload_n 1, 1) := by decide +kernel
theorem dX7_quiet_28 : decode cX7_quiet 28 = .ok (.iconst 0, 1) := by decide +kernel
theorem dX7_quiet_29 : decode cX7_quiet 29 = .ok (.invokevirtual 98, 3) := by decide +kernel
theorem dX7_quiet_32 : decode cX7_quiet 32 = .ok (.pop, 1) := by decide +kernel
theorem dX7_quiet_33 : decode cX7_quiet 33 = .ok (.aload_n 0, 1) := by decide +kernel
theorem dX7_quiet_34 : decode cX7_quiet 34 = .ok (.getfield 19, 3) := by decide +kernel
theorem dX7_quiet_37 : decode cX7_quiet 37 = .ok (.iload_n 1, 1) := by decide +kernel
theorem dX7_quiet_38 : decode cX7_quiet 38 = .ok (.invokevirtual 113, 3) := by decide +kernel
theorem dX7_quiet_41 : decode cX7_quiet 41 = .ok (.astore_n 2, 1) := by decide +kernel
theorem dX7_quiet_42 : decode cX7_quiet 42 = .ok (.iconst 0, 1) := by decide +kernel
theorem dX7_quiet_43 : decode cX7_quiet 43 = .ok (.istore_n 3, 1) := by decide +kernel
theorem dX7_quiet_44 : decode cX7_quiet 44 = .ok (.iload_n 3, 1) := by decide +kernel
theorem dX7_quiet_45 : decode cX7_quiet 45 = .ok (.bipush 60, 2) := by decide +kernel
theorem dX7_quiet_47 : decode cX7_quiet 47 = .ok (.if_icmp .ge 30, 3) := by decide +kernel
theorem dX7_quiet_50 : decode cX7_quiet 50 = .ok (.aload_n 2, 1) := by decide +kernel
theorem dX7_quiet_51 : decode cX7_quiet 51 = .ok (.invokevirtual 174, 3) := by decide +kernel
theorem dX7_quiet_54 : decode cX7_quiet 54 = .ok (.ifCond .eq 5, 3) := by decide +kernel
theorem dX7_quiet_57 : decode cX7_quiet 57 = .ok (.iload_n 3, 1) := by decide +kernel
theorem dX7_quiet_58 : decode cX7_quiet 58 = .ok (.ireturn, 1) := by decide +kernel
theorem dX7_quiet_59 : decode cX7_quiet 59 = .ok (.aload_n 0, 1) := by decide +kernel
theorem dX7_quiet_60 : decode cX7_quiet 60 = .ok (.getfield 19, 3) := by decide +kernel
theorem dX7_quiet_63 : decode cX7_quiet 63 = .ok (.aload_n 0, 1) := by decide +kernel
theorem dX7_quiet_64 : decode cX7_quiet 64 = .ok (.getfield 26, 3) := by decide +kernel
theorem dX7_quiet_67 : decode cX7_quiet 67 = .ok (.invokevirtual 208, 3) := by decide +kernel
theorem dX7_quiet_70 : decode cX7_quiet 70 = .ok (.pop, 1) := by decide +kernel
theorem dX7_quiet_71 : decode cX7_quiet 71 = .ok (.iinc 3 1, 3) := by decide +kernel
theorem dX7_quiet_74 : decode cX7_quiet 74 = .ok (.goto (-30), 3) := by decide +kernel
theorem dX7_quiet_77 : decode cX7_quiet 77 = .ok (.aload_n 2, 1) := by decide +kernel
theorem dX7_quiet_78 : decode cX7_quiet 78 = .ok (.invokevirtual 174, 3) := by decide +kernel
theorem dX7_quiet_81 : decode cX7_quiet 81 = .ok (.ifCond .eq 8, 3) := by decide +kernel
theorem dX7_quiet_84 : decode cX7_quiet 84 = .ok (.bipush 60, 2) := by decide +kernel
theorem dX7_quiet_86 : decode cX7_quiet 86 = .ok (.goto 5, 3) := by decide +kernel
theorem dX7_quiet_89 : decode cX7_quiet 89 = .ok (.bipush (-4), 2) := by decide +kernel
theorem dX7_quiet_91 : decode cX7_quiet 91 = .ok (.ireturn, 1) := by decide +kernel
set_option maxRecDepth 20000 in
theorem ggX7_best_X7_isCrane : GoodIn wsX7_best wsX7_isCrane := goodIn_r _ [4] (by decide +kernel) (by decide +kernel)
set_option maxRecDepth 20000 in
theorem gX7_best_X7_isCrane : GoodIn wsX7_best (va_wsS RX7 85 yX7_isCrane wsX7_isCrane) := goodIn_app (goodIn_of _ (by decide +kernel)) ggX7_best_X7_isCrane
set_option maxRecDepth 20000 in
theorem ggX7_best_X7_isSpeed : GoodIn wsX7_best wsX7_isSpeed := goodIn_r _ [7, 8, 9, 3, 10] (by decide +kernel) (by decide +kernel)
set_option maxRecDepth 20000 in
theorem gX7_best_X7_isSpeed : GoodIn wsX7_best (va_wsS RX7 89 yX7_isSpeed wsX7_isSpeed) := goodIn_app (goodIn_of _ (by decide +kernel)) ggX7_best_X7_isSpeed
set_option maxRecDepth 20000 in
theorem ggX7_best_X7_isWithin : GoodIn wsX7_best wsX7_isWithin := goodIn_r _ [10] (by decide +kernel) (by decide +kernel)
set_option maxRecDepth 20000 in
theorem gX7_best_X7_isWithin : GoodIn wsX7_best (va_wsS RX7 56 yX7_isWithin wsX7_isWithin) := goodIn_app (goodIn_of _ (by decide +kernel)) ggX7_best_X7_isWithin
set_option maxRecDepth 20000 in
theorem ggX7_best_X7_swingWithPause : GoodIn wsX7_best wsX7_swingWithPause := goodIn_r _ [14, 15, 16, 17, 18, 19, 20, 21, 22, 23, 24, 25, 26, 27, 28, 29, 30, 31, 32, 33, 34, 35, 36, 37, 38, 39, 40, 41, 42, 43, 44, 45, 46, 47, 48, 49, 50, 51, 52, 53, 54, 55, 56, 57, 58, 59, 60, 61, 62, 63, 64, 65, 66, 67, 68, 69, 3, 70, 71, 72, 73, 74, 75, 76, 77, 78, 79, 80, 81, 82, 83, 84, 85, 86, 87, 88, 89, 90, 91, 92, 93, 94, 95, 96, 97, 98, 99, 100, 101, 102, 103, 104, 105, 106, 107, 108, 109, 110, 111, 112, 113, 114, 115, 116, 117, 118, 119, 120, 121, 122, 123, 124, 125, 126, 127, 128, 129, 130, 131, 132, 133, 134, 135, 136, 137, 138, 139, 140, 141, 142, 143, 144, 145, 146, 147, 148, 149, 150, 151, 152, 153, 154, 155, 156, 157, 158, 159, 160, 161, 162, 163, 164, 165, 166, 167, 168, 169, 170, 171, 172, 173, 174, 175, 176] (by decide +kernel) (by decide +kernel)
set_option maxRecDepth 20000 in
theorem gX7_best_X7_swingWithPause : GoodIn wsX7_best (wsV RX7 221 RX7 yX7_swingWithPause wsX7_swingWithPause) := goodIn_app (goodIn_of _ (by decide +kernel)) ggX7_best_X7_swingWithPause
theorem dX7_best_0 : decode cX7_best 0 = .ok (.iload_n 1, 1) := by decide +kernel
theorem dX7_best_1 : decode cX7_best 1 = .ok (.invokestatic 85, 3) := by decide +kernel
theorem dX7_best_4 : decode cX7_best 4 = .ok (.ifCond .eq 19, 3) := by decide +kernel
theorem dX7_best_7 : decode cX7_best 7 = .ok (.iload_n 2, 1) := by decide +kernel
theorem dX7_best_8 : decode cX7_best 8 = .ok (.invokestatic 89, 3) := by decide +kernel
theorem dX7_best_11 : decode cX7_best 11 = .ok (.ifCond .eq 12, 3) := by decide +kernel
theorem dX7_best_14 : decode cX7_best 14 = .ok (.iload_n 3, 1) := by decide +kernel
theorem dX7_best_15 : decode cX7_best 15 = .ok (.iconst 0, 1) := by decide +kernel
theorem dX7_best_16 : decode cX7_best 16 = .ok (.iconst 1, 1) := by decide +kernel
theorem dX7_best_17 : decode cX7_best 17 = .ok (.invokestatic 56, 3) := by decide +kernel
theorem dX7_best_20 : decode cX7_best 20 = .ok (.ifCond .ne 5, 3) := by decide +kernel
theorem dX7_best_23 : decode cX7_best 23 = .ok (.iconst (-1), 1) := by decide +kernel
theorem dX7_best_24 : decode cX7_best 24 = .ok (.ireturn, 1) := by decide +kernel
theorem dX7_best_25 : decode cX7_best 25 = .ok (.iconst 0, 1) := by decide +kernel
theorem dX7_best_26 : decode cX7_best 26 = .ok (.istore 4, 2) := by decide +kernel
theorem dX7_best_28 : decode cX7_best 28 = .ok (.aload_n 0, 1) := by decide +kernel
theorem dX7_best_29 : decode cX7_best 29 = .ok (.iload_n 1, 1) := by decide +kernel
theorem dX7_best_30 : decode cX7_best 30 = .ok (.iload_n 2, 1) := by decide +kernel
theorem dX7_best_31 : decode cX7_best 31 = .ok (.iconst 0, 1) := by decide +kernel
theorem dX7_best_32 : decode cX7_best 32 = .ok (.invokevirtual 221, 3) := by decide +kernel
theorem dX7_best_35 : decode cX7_best 35 = .ok (.istore 5, 2) := by decide +kernel
theorem dX7_best_37 : decode cX7_best 37 = .ok (.iconst 1, 1) := by decide +kernel
theorem dX7_best_38 : decode cX7_best 38 = .ok (.istore 6, 2) := by decide +kernel
theorem dX7_best_40 : decode cX7_best 40 = .ok (.iload 6, 2) := by decide +kernel
theorem dX7_best_42 : decode cX7_best 42 = .ok (.bipush 20, 2) := by decide +kernel
theorem dX7_best_44 : decode cX7_best 44 = .ok (.if_icmp .gt 34, 3) := by decide +kernel
theorem dX7_best_47 : decode cX7_best 47 = .ok (.aload_n 0, 1) := by decide +kernel
theorem dX7_best_48 : decode cX7_best 48 = .ok (.iload_n 1, 1) := by decide +kernel
theorem dX7_best_49 : decode cX7_best 49 = .ok (.iload_n 2, 1) := by decide +kernel
theorem dX7_best_50 : decode cX7_best 50 = .ok (.iload 6, 2) := by decide +kernel
theorem dX7_best_52 : decode cX7_best 52 = .ok (.invokevirtual 221, 3) := by decide +kernel
theorem dX7_best_55 : decode cX7_best 55 = .ok (.istore 7, 2) := by decide +kernel
theorem dX7_best_57 : decode cX7_best 57 = .ok (.iload 7, 2) := by decide +kernel
theorem dX7_best_59 : decode cX7_best 59 = .ok (.iload 5, 2) := by decide +kernel
theorem dX7_best_61 : decode cX7_best 61 = .ok (.if_icmp .ge 11, 3) := by decide +kernel
theorem dX7_best_64 : decode cX7_best 64 = .ok (.iload 7, 2) := by decide +kernel
theorem dX7_best_66 : decode cX7_best 66 = .ok (.istore 5, 2) := by decide +kernel
theorem dX7_best_68 : decode cX7_best 68 = .ok (.iload 6, 2) := by decide +kernel
theorem dX7_best_70 : decode cX7_best 70 = .ok (.istore 4, 2) := by decide +kernel
theorem dX7_best_72 : decode cX7_best 72 = .ok (.iinc 6 1, 3) := by decide +kernel
theorem dX7_best_75 : decode cX7_best 75 = .ok (.goto (-35), 3) := by decide +kernel
theorem dX7_best_78 : decode cX7_best 78 = .ok (.iload_n 3, 1) := by decide +kernel
theorem dX7_best_79 : decode cX7_best 79 = .ok (.ifCond .ne 8, 3) := by decide +kernel
theorem dX7_best_82 : decode cX7_best 82 = .ok (.iload 4, 2) := by decide +kernel
theorem dX7_best_84 : decode cX7_best 84 = .ok (.goto 5, 3) := by decide +kernel
theorem dX7_best_87 : decode cX7_best 87 = .ok (.iload 5, 2) := by decide +kernel
theorem dX7_best_89 : decode cX7_best 89 = .ok (.ireturn, 1) := by decide +kernel
set_option maxRecDepth 20000 in
theorem ggX7_count_X2_freeBetween : GoodIn wsX7_count wsX2_freeBetween := goodIn_r _ [18, 19, 20, 21, 22, 44, 45, 46, 50, 51, 52, 53, 54, 55, 56, 57, 58, 59, 60, 61, 62, 33, 34, 35, 36, 37, 38, 39] (by decide +kernel) (by decide +kernel)
set_option maxRecDepth 20000 in
theorem gX7_count_X2_freeBetween : GoodIn wsX7_count (wsV RX7 233 RX2 yX2_freeBetween wsX2_freeBetween) := goodIn_app (goodIn_of _ (by decide +kernel)) ggX7_count_X2_freeBetween
theorem dX7_count_0 : decode cX7_count 0 = .ok (.iload_n 1, 1) := by decide +kernel
theorem dX7_count_1 : decode cX7_count 1 = .ok (.tableswitch 142 0 9 #[55, 63, 71, 79, 87, 95, 106, 114, 119, 127], 55) := by decide +kernel
theorem dX7_count_56 : decode cX7_count 56 = .ok (.aload_n 0, 1) := by decide +kernel
theorem dX7_count_57 : decode cX7_count 57 = .ok (.getfield 26, 3) := by decide +kernel
theorem dX7_count_60 : decode cX7_count 60 = .ok (.getfield 82, 3) := by decide +kernel
theorem dX7_count_63 : decode cX7_count 63 = .ok (.ireturn, 1) := by decide +kernel
theorem dX7_count_64 : decode cX7_count 64 = .ok (.aload_n 0, 1) := by decide +kernel
theorem dX7_count_65 : decode cX7_count 65 = .ok (.getfield 26, 3) := by decide +kernel
theorem dX7_count_68 : decode cX7_count 68 = .ok (.getfield 224, 3) := by decide +kernel
theorem dX7_count_71 : decode cX7_count 71 = .ok (.ireturn, 1) := by decide +kernel
theorem dX7_count_72 : decode cX7_count 72 = .ok (.aload_n 0, 1) := by decide +kernel
theorem dX7_count_73 : decode cX7_count 73 = .ok (.getfield 26, 3) := by decide +kernel
theorem dX7_count_76 : decode cX7_count 76 = .ok (.getfield 164, 3) := by decide +kernel
theorem dX7_count_79 : decode cX7_count 79 = .ok (.ireturn, 1) := by decide +kernel
theorem dX7_count_80 : decode cX7_count 80 = .ok (.aload_n 0, 1) := by decide +kernel
theorem dX7_count_81 : decode cX7_count 81 = .ok (.getfield 26, 3) := by decide +kernel
theorem dX7_count_84 : decode cX7_count 84 = .ok (.getfield 227, 3) := by decide +kernel
theorem dX7_count_87 : decode cX7_count 87 = .ok (.ireturn, 1) := by decide +kernel
theorem dX7_count_88 : decode cX7_count 88 = .ok (.aload_n 0, 1) := by decide +kernel
theorem dX7_count_89 : decode cX7_count 89 = .ok (.getfield 26, 3) := by decide +kernel
theorem dX7_count_92 : decode cX7_count 92 = .ok (.getfield 230, 3) := by decide +kernel
theorem dX7_count_95 : decode cX7_count 95 = .ok (.ireturn, 1) := by decide +kernel
theorem dX7_count_96 : decode cX7_count 96 = .ok (.aload_n 0, 1) := by decide +kernel
theorem dX7_count_97 : decode cX7_count 97 = .ok (.getfield 36, 3) := by decide +kernel
theorem dX7_count_100 : decode cX7_count 100 = .ok (.getfield 95, 3) := by decide +kernel
theorem dX7_count_103 : decode cX7_count 103 = .ok (.getfield 129, 3) := by decide +kernel
theorem dX7_count_106 : decode cX7_count 106 = .ok (.ireturn, 1) := by decide +kernel
theorem dX7_count_107 : decode cX7_count 107 = .ok (.aload_n 0, 1) := by decide +kernel
theorem dX7_count_108 : decode cX7_count 108 = .ok (.getfield 36, 3) := by decide +kernel
theorem dX7_count_111 : decode cX7_count 111 = .ok (.getfield 132, 3) := by decide +kernel
theorem dX7_count_114 : decode cX7_count 114 = .ok (.ireturn, 1) := by decide +kernel
theorem dX7_count_115 : decode cX7_count 115 = .ok (.aload_n 0, 1) := by decide +kernel
theorem dX7_count_116 : decode cX7_count 116 = .ok (.getfield 79, 3) := by decide +kernel
theorem dX7_count_119 : decode cX7_count 119 = .ok (.ireturn, 1) := by decide +kernel
theorem dX7_count_120 : decode cX7_count 120 = .ok (.aload_n 0, 1) := by decide +kernel
theorem dX7_count_121 : decode cX7_count 121 = .ok (.getfield 10, 3) := by decide +kernel
theorem dX7_count_124 : decode cX7_count 124 = .ok (.getfield 68, 3) := by decide +kernel
theorem dX7_count_127 : decode cX7_count 127 = .ok (.ireturn, 1) := by decide +kernel
theorem dX7_count_128 : decode cX7_count 128 = .ok (.aload_n 0, 1) := by decide +kernel
theorem dX7_count_129 : decode cX7_count 129 = .ok (.getfield 36, 3) := by decide +kernel
theorem dX7_count_132 : decode cX7_count 132 = .ok (.getfield 95, 3) := by decide +kernel
theorem dX7_count_135 : decode cX7_count 135 = .ok (.aload_n 0, 1) := by decide +kernel
theorem dX7_count_136 : decode cX7_count 136 = .ok (.getfield 26, 3) := by decide +kernel
theorem dX7_count_139 : decode cX7_count 139 = .ok (.invokevirtual 233, 3) := by decide +kernel
theorem dX7_count_142 : decode cX7_count 142 = .ok (.ireturn, 1) := by decide +kernel
theorem dX7_count_143 : decode cX7_count 143 = .ok (.iconst (-1), 1) := by decide +kernel
theorem dX7_count_144 : decode cX7_count 144 = .ok (.ireturn, 1) := by decide +kernel
set_option maxRecDepth 20000 in
theorem ggX7_keepForUndo_X5_copyFrom : GoodIn wsX7_keepForUndo wsX5_copyFrom := goodIn_r _ [15, 16, 17, 18, 19, 20, 21, 22, 23, 24, 25, 26, 27, 28, 29, 30, 31, 32, 33, 34, 35, 36, 37, 38, 39, 40, 41, 42, 43, 44, 45, 46, 47, 48, 49, 50, 51, 52, 53, 54, 55, 56, 57, 58, 59, 60, 61, 62, 63, 64, 65, 76, 77, 78, 79, 80, 81, 82, 83, 84, 85, 86, 87, 88, 89, 90, 91, 92, 93, 94, 95, 96, 97, 98] (by decide +kernel) (by decide +kernel)
set_option maxRecDepth 20000 in
theorem gX7_keepForUndo_X5_copyFrom : GoodIn wsX7_keepForUndo (wsV RX7 236 RX5 yX5_copyFrom wsX5_copyFrom) := goodIn_app (goodIn_of _ (by decide +kernel)) ggX7_keepForUndo_X5_copyFrom
theorem dX7_keepForUndo_0 : decode cX7_keepForUndo 0 = .ok (.aload_n 0, 1) := by decide +kernel
theorem dX7_keepForUndo_1 : decode cX7_keepForUndo 1 = .ok (.getfield 49, 3) := by decide +kernel
theorem dX7_keepForUndo_4 : decode cX7_keepForUndo 4 = .ok (.astore_n 1, 1) := by decide +kernel
theorem dX7_keepForUndo_5 : decode cX7_keepForUndo 5 = .ok (.aload_n 0, 1) := by decide +kernel
theorem dX7_keepForUndo_6 : decode cX7_keepForUndo 6 = .ok (.aload_n 0, 1) := by decide +kernel
theorem dX7_keepForUndo_7 : decode cX7_keepForUndo 7 = .ok (.getfield 46, 3) := by decide +kernel
theorem dX7_keepForUndo_10 : decode cX7_keepForUndo 10 = .ok (.putfield 49, 3) := by decide +kernel
theorem dX7_keepForUndo_13 : decode cX7_keepForUndo 13 = .ok (.aload_n 0, 1) := by decide +kernel
theorem dX7_keepForUndo_14 : decode cX7_keepForUndo 14 = .ok (.aload_n 0, 1) := by decide +kernel
theorem dX7_keepForUndo_15 : decode cX7_keepForUndo 15 = .ok (.getfield 43, 3) := by decide +kernel
theorem dX7_keepForUndo_18 : decode cX7_keepForUndo 18 = .ok (.putfield 46, 3) := by decide +kernel
theorem dX7_keepForUndo_21 : decode cX7_keepForUndo 21 = .ok (.aload_n 0, 1) := by decide +kernel
theorem dX7_keepForUndo_22 : decode cX7_keepForUndo 22 = .ok (.aload_n 0, 1) := by decide +kernel
theorem dX7_keepForUndo_23 : decode cX7_keepForUndo 23 = .ok (.getfield 40, 3) := by decide +kernel
theorem dX7_keepForUndo_26 : decode cX7_keepForUndo 26 = .ok (.putfield 43, 3) := by decide +kernel
theorem dX7_keepForUndo_29 : decode cX7_keepForUndo 29 = .ok (.aload_n 0, 1) := by decide +kernel
theorem dX7_keepForUndo_30 : decode cX7_keepForUndo 30 = .ok (.aload_n 1, 1) := by decide +kernel
theorem dX7_keepForUndo_31 : decode cX7_keepForUndo 31 = .ok (.putfield 40, 3) := by decide +kernel
theorem dX7_keepForUndo_34 : decode cX7_keepForUndo 34 = .ok (.aload_n 0, 1) := by decide +kernel
theorem dX7_keepForUndo_35 : decode cX7_keepForUndo 35 = .ok (.getfield 40, 3) := by decide +kernel
theorem dX7_keepForUndo_38 : decode cX7_keepForUndo 38 = .ok (.aload_n 0, 1) := by decide +kernel
theorem dX7_keepForUndo_39 : decode cX7_keepForUndo 39 = .ok (.getfield 36, 3) := by decide +kernel
theorem dX7_keepForUndo_42 : decode cX7_keepForUndo 42 = .ok (.invokevirtual 236, 3) := by decide +kernel
theorem dX7_keepForUndo_45 : decode cX7_keepForUndo 45 = .ok (.aload_n 0, 1) := by decide +kernel
theorem dX7_keepForUndo_46 : decode cX7_keepForUndo 46 = .ok (.aload_n 0, 1) := by decide +kernel
theorem dX7_keepForUndo_47 : decode cX7_keepForUndo 47 = .ok (.getfield 79, 3) := by decide +kernel
theorem dX7_keepForUndo_50 : decode cX7_keepForUndo 50 = .ok (.iconst 1, 1) := by decide +kernel
theorem dX7_keepForUndo_51 : decode cX7_keepForUndo 51 = .ok (.iadd, 1) := by decide +kernel
theorem dX7_keepForUndo_52 : decode cX7_keepForUndo 52 = .ok (.iconst 4, 1) := by decide +kernel
theorem dX7_keepForUndo_53 : decode cX7_keepForUndo 53 = .ok (.invokestatic 239, 3) := by decide +kernel
theorem dX7_keepForUndo_56 : decode cX7_keepForUndo 56 = .ok (.putfield 79, 3) := by decide +kernel
theorem dX7_keepForUndo_59 : decode cX7_keepForUndo 59 = .ok (.return_, 1) := by decide +kernel
set_option maxRecDepth 20000 in
theorem ggX7_swingWithPause_X2_copyFrom : GoodIn wsX7_swingWithPause wsX2_copyFrom := goodIn_r _ [17, 18, 19, 20, 21, 22, 23, 24, 25, 26, 27, 28, 29, 30, 31, 32, 33, 34, 35, 36, 37, 38, 154, 155, 156, 141, 142, 143, 144, 145, 146, 147, 148, 149, 150, 151, 152, 153] (by decide +kernel) (by decide +kernel)
set_option maxRecDepth 20000 in
theorem gX7_swingWithPause_X2_copyFrom : GoodIn wsX7_swingWithPause (wsV RX7 204 RX2 yX2_copyFrom wsX2_copyFrom) := goodIn_app (goodIn_of _ (by decide +kernel)) ggX7_swingWithPause_X2_copyFrom
set_option maxRecDepth 20000 in
theorem ggX7_swingWithPause_X2_tellByHalves : GoodIn wsX7_swingWithPause wsX2_tellByHalves := goodIn_r _ [42, 18, 19, 43, 44, 45, 16, 46, 47, 48, 49, 50, 20, 51, 52, 53, 24, 54, 32, 28, 55, 56, 57, 58, 59, 60, 61, 34, 35, 36, 37, 62, 63, 64, 65, 66, 67, 68, 69, 154, 155, 156, 141, 142, 143, 144, 145, 146, 147, 148, 149, 150, 151, 152, 153] (by decide +kernel) (by decide +kernel)
set_option maxRecDepth 20000 in
theorem gX7_swingWithPause_X2_tellByHalves : GoodIn wsX7_swingWithPause (wsV RX7 102 RX2 yX2_tellByHalves wsX2_tellByHalves) := goodIn_app (goodIn_of _ (by decide +kernel)) ggX7_swingWithPause_X2_tellByHalves
set_option maxRecDepth 20000 in
theorem ggX7_swingWithPause_X2_side : GoodIn wsX7_swingWithPause wsX2_side := goodIn_r _ [73, 18, 19, 154, 155, 156] (by decide +kernel) (by decide +kernel)
set_option maxRecDepth 20000 in
theorem gX7_swingWithPause_X2_side : GoodIn wsX7_swingWithPause (wsV RX7 113 RX2 yX2_side wsX2_side) := goodIn_app (goodIn_of _ (by decide +kernel)) ggX7_swingWithPause_X2_side
set_option maxRecDepth 20000 in
theorem ggX7_swingWithPause_X2_goOn : GoodIn wsX7_swingWithPause wsX2_goOn := goodIn_r _ [77, 18, 78, 19, 79, 80, 81, 20, 82, 83, 84, 85, 16, 86, 87, 88, 89, 90, 24, 91, 92, 38, 27, 26, 93, 94, 95, 96, 34, 36, 35, 32, 37, 97, 98, 99, 100, 101, 102, 103, 104, 105, 29, 106, 11, 8, 12, 107, 56, 108, 109, 110, 111, 10, 112, 113, 6, 7, 9, 114, 115, 116, 117, 118, 119, 120, 121, 122, 28, 30, 31, 123, 124, 125, 126, 33, 154, 155, 156, 141, 142, 143, 144, 145, 146, 147, 148, 149, 150, 151, 152, 153, 157, 158, 159, 160, 161, 162, 163] (by decide +kernel) (by decide +kernel)
set_option maxRecDepth 20000 in
theorem gX7_swingWithPause_X2_goOn : GoodIn wsX7_swingWithPause (wsV RX7 208 RX2 yX2_goOn wsX2_goOn) := goodIn_app (goodIn_of _ (by decide +kernel)) ggX7_swingWithPause_X2_goOn
theorem dX7_swingWithPause_0 : decode cX7_swingWithPause 0 = .ok (.aload_n 0, 1) := by decide +kernel
theorem dX7_swingWithPause_1 : decode cX7_swingWithPause 1 = .ok (.getfield 19, 3) := by decide +kernel
theorem dX7_swingWithPause_4 : decode cX7_swingWithPause 4 = .ok (.aload_n 0, 1) := by decide +kernel
theorem dX7_swingWithPause_5 : decode cX7_swingWithPause 5 = .ok (.getfield 36, 3) := by decide +kernel
theorem dX7_swingWithPause_8 : decode cX7_swingWithPause 8 = .ok (.getfield 95, 3) := by decide +kernel
theorem dX7_swingWithPause_11 : decode cX7_swingWithPause 11 = .ok (.invokevirtual 204, 3) := by decide +kernel
theorem dX7_swingWithPause_14 : decode cX7_swingWithPause 14 = .ok (.aload_n 0, 1) := by decide +kernel
theorem dX7_swingWithPause_15 : decode cX7_swingWithPause 15 = .ok (.getfield 19, 3) := by decide +kernel
theorem dX7_swingWithPause_18 : decode cX7_swingWithPause 18 = .ok (.iload_n 1, 1) := by decide +kernel
theorem dX7_swingWithPause_19 : decode cX7_swingWithPause 19 = .ok (.iload_n 2, 1) := by decide +kernel
theorem dX7_swingWithPause_20 : decode cX7_swingWithPause 20 = .ok (.iload_n 3, 1) := by decide +kernel
theorem dX7_swingWithPause_21 : decode cX7_swingWithPause 21 = .ok (.invokevirtual 102, 3) := by decide +kernel
theorem dX7_swingWithPause_24 : decode cX7_swingWithPause 24 = .ok (.pop, 1) := by decide +kernel
theorem dX7_swingWithPause_25 : decode cX7_swingWithPause 25 = .ok (.aload_n 0, 1) := by decide +kernel
theorem dX7_swingWithPause_26 : decode cX7_swingWithPause 26 = .ok (.getfield 19, 3) := by decide +kernel
theorem dX7_swingWithPause_29 : decode cX7_swingWithPause 29 = .ok (.iload_n 1, 1) := by decide +kernel
theorem dX7_swingWithPause_30 : decode cX7_swingWithPause 30 = .ok (.invokevirtual 113, 3) := by decide +kernel
theorem dX7_swingWithPause_33 : decode cX7_swingWithPause 33 = .ok (.astore 4, 2) := by decide +kernel
theorem dX7_swingWithPause_35 : decode cX7_swingWithPause 35 = .ok (.iconst 0, 1) := by decide +kernel
theorem dX7_swingWithPause_36 : decode cX7_swingWithPause 36 = .ok (.istore 5, 2) := by decide +kernel
theorem dX7_swingWithPause_38 : decode cX7_swingWithPause 38 = .ok (.iconst 1, 1) := by decide +kernel
theorem dX7_swingWithPause_39 : decode cX7_swingWithPause 39 = .ok (.istore 6, 2) := by decide +kernel
theorem dX7_swingWithPause_41 : decode cX7_swingWithPause 41 = .ok (.iload 6, 2) := by decide +kernel
theorem dX7_swingWithPause_43 : decode cX7_swingWithPause 43 = .ok (.bipush 60, 2) := by decide +kernel
theorem dX7_swingWithPause_45 : decode cX7_swingWithPause 45 = .ok (.if_icmp .gt 43, 3) := by decide +kernel
theorem dX7_swingWithPause_48 : decode cX7_swingWithPause 48 = .ok (.aload_n 0, 1) := by decide +kernel
theorem dX7_swingWithPause_49 : decode cX7_swingWithPause 49 = .ok (.getfield 19, 3) := by decide +kernel
theorem dX7_swingWithPause_52 : decode cX7_swingWithPause 52 = .ok (.aload_n 0, 1) := by decide +kernel
theorem dX7_swingWithPause_53 : decode cX7_swingWithPause 53 = .ok (.getfield 26, 3) := by decide +kernel
theorem dX7_swingWithPause_56 : decode cX7_swingWithPause 56 = .ok (.invokevirtual 208, 3) := by decide +kernel
theorem dX7_swingWithPause_59 : decode cX7_swingWithPause 59 = .ok (.pop, 1) := by decide +kernel
theorem dX7_swingWithPause_60 : decode cX7_swingWithPause 60 = .ok (.iload 6, 2) := by decide +kernel
theorem dX7_swingWithPause_62 : decode cX7_swingWithPause 62 = .ok (.bipush 21, 2) := by decide +kernel
theorem dX7_swingWithPause_64 : decode cX7_swingWithPause 64 = .ok (.if_icmp .lt 18, 3) := by decide +kernel
theorem dX7_swingWithPause_67 : decode cX7_swingWithPause 67 = .ok (.iload 5, 2) := by decide +kernel
theorem dX7_swingWithPause_69 : decode cX7_swingWithPause 69 = .ok (.aload 4, 2) := by decide +kernel
theorem dX7_swingWithPause_71 : decode cX7_swingWithPause 71 = .ok (.getfield 148, 3) := by decide +kernel
theorem dX7_swingWithPause_74 : decode cX7_swingWithPause 74 = .ok (.invokestatic 209, 3) := by decide +kernel
theorem dX7_swingWithPause_77 : decode cX7_swingWithPause 77 = .ok (.invokestatic 214, 3) := by decide +kernel
theorem dX7_swingWithPause_80 : decode cX7_swingWithPause 80 = .ok (.istore 5, 2) := by decide +kernel
theorem dX7_swingWithPause_82 : decode cX7_swingWithPause 82 = .ok (.iinc 6 1, 3) := by decide +kernel
theorem dX7_swingWithPause_85 : decode cX7_swingWithPause 85 = .ok (.goto (-44), 3) := by decide +kernel
theorem dX7_swingWithPause_88 : decode cX7_swingWithPause 88 = .ok (.iload 5, 2) := by decide +kernel
theorem dX7_swingWithPause_90 : decode cX7_swingWithPause 90 = .ok (.ireturn, 1) := by decide +kernel
theorem dX7_isWithin_0 : decode cX7_isWithin 0 = .ok (.iload_n 0, 1) := by decide +kernel
theorem dX7_isWithin_1 : decode cX7_isWithin 1 = .ok (.iload_n 1, 1) := by decide +kernel
theorem dX7_isWithin_2 : decode cX7_isWithin 2 = .ok (.if_icmp .lt 12, 3) := by decide +kernel
theorem dX7_isWithin_5 : decode cX7_isWithin 5 = .ok (.iload_n 0, 1) := by decide +kernel
theorem dX7_isWithin_6 : decode cX7_isWithin 6 = .ok (.iload_n 2, 1) := by decide +kernel
theorem dX7_isWithin_7 : decode cX7_isWithin 7 = .ok (.if_icmp .gt 7, 3) := by decide +kernel
theorem dX7_isWithin_10 : decode cX7_isWithin 10 = .ok (.iconst 1, 1) := by decide +kernel
theorem dX7_isWithin_11 : decode cX7_isWithin 11 = .ok (.goto 4, 3) := by decide +kernel
theorem dX7_isWithin_14 : decode cX7_isWithin 14 = .ok (.iconst 0, 1) := by decide +kernel
theorem dX7_isWithin_15 : decode cX7_isWithin 15 = .ok (.ireturn, 1) := by decide +kernel
theorem dX7_isCrane_0 : decode cX7_isCrane 0 = .ok (.iload_n 0, 1) := by decide +kernel
theorem dX7_isCrane_1 : decode cX7_isCrane 1 = .ok (.ifCond .eq 8, 3) := by decide +kernel
theorem dX7_isCrane_4 : decode cX7_isCrane 4 = .ok (.iload_n 0, 1) := by decide +kernel
theorem dX7_isCrane_5 : decode cX7_isCrane 5 = .ok (.iconst 1, 1) := by decide +kernel
theorem dX7_isCrane_6 : decode cX7_isCrane 6 = .ok (.if_icmp .ne 7, 3) := by decide +kernel
theorem dX7_isCrane_9 : decode cX7_isCrane 9 = .ok (.iconst 1, 1) := by decide +kernel
theorem dX7_isCrane_10 : decode cX7_isCrane 10 = .ok (.goto 4, 3) := by decide +kernel
theorem dX7_isCrane_13 : decode cX7_isCrane 13 = .ok (.iconst 0, 1) := by decide +kernel
theorem dX7_isCrane_14 : decode cX7_isCrane 14 = .ok (.ireturn, 1) := by decide +kernel
set_option maxRecDepth 20000 in
theorem ggX7_isSpeed_X7_isWithin : GoodIn wsX7_isSpeed wsX7_isWithin := goodIn_r _ [4] (by decide +kernel) (by decide +kernel)
set_option maxRecDepth 20000 in
theorem gX7_isSpeed_X7_isWithin : GoodIn wsX7_isSpeed (va_wsS RX7 56 yX7_isWithin wsX7_isWithin) := goodIn_app (goodIn_of _ (by decide +kernel)) ggX7_isSpeed_X7_isWithin
theorem dX7_isSpeed_0 : decode cX7_isSpeed 0 = .ok (.iload_n 0, 1) := by decide +kernel
theorem dX7_isSpeed_1 : decode cX7_isSpeed 1 = .ok (.bipush (-40), 2) := by decide +kernel
theorem dX7_isSpeed_3 : decode cX7_isSpeed 3 = .ok (.bipush 40, 2) := by decide +kernel
theorem dX7_isSpeed_5 : decode cX7_isSpeed 5 = .ok (.invokestatic 56, 3) := by decide +kernel
theorem dX7_isSpeed_8 : decode cX7_isSpeed 8 = .ok (.ireturn, 1) := by decide +kernel
set_option maxRecDepth 20000 in
theorem ggX7_isRope_X7_isWithin : GoodIn wsX7_isRope wsX7_isWithin := goodIn_r _ [4] (by decide +kernel) (by decide +kernel)
set_option maxRecDepth 20000 in
theorem gX7_isRope_X7_isWithin : GoodIn wsX7_isRope (va_wsS RX7 56 yX7_isWithin wsX7_isWithin) := goodIn_app (goodIn_of _ (by decide +kernel)) ggX7_isRope_X7_isWithin
theorem dX7_isRope_0 : decode cX7_isRope 0 = .ok (.iload_n 0, 1) := by decide +kernel
theorem dX7_isRope_1 : decode cX7_isRope 1 = .ok (.bipush 10, 2) := by decide +kernel
theorem dX7_isRope_3 : decode cX7_isRope 3 = .ok (.bipush 60, 2) := by decide +kernel
theorem dX7_isRope_5 : decode cX7_isRope 5 = .ok (.invokestatic 56, 3) := by decide +kernel
theorem dX7_isRope_8 : decode cX7_isRope 8 = .ok (.ireturn, 1) := by decide +kernel
theorem dX7_keptWithin_0 : decode cX7_keptWithin 0 = .ok (.iload_n 1, 1) := by decide +kernel
theorem dX7_keptWithin_1 : decode cX7_keptWithin 1 = .ok (.ineg, 1) := by decide +kernel
theorem dX7_keptWithin_2 : decode cX7_keptWithin 2 = .ok (.iload_n 0, 1) := by decide +kernel
theorem dX7_keptWithin_3 : decode cX7_keptWithin 3 = .ok (.iload_n 1, 1) := by decide +kernel
theorem dX7_keptWithin_4 : decode cX7_keptWithin 4 = .ok (.invokestatic 239, 3) := by decide +kernel
theorem dX7_keptWithin_7 : decode cX7_keptWithin 7 = .ok (.invokestatic 214, 3) := by decide +kernel
theorem dX7_keptWithin_10 : decode cX7_keptWithin 10 = .ok (.ireturn, 1) := by decide +kernel
theorem dX7_wayToStop_0 : decode cX7_wayToStop 0 = .ok (.iload_n 1, 1) := by decide +kernel
theorem dX7_wayToStop_1 : decode cX7_wayToStop 1 = .ok (.iconst 1, 1) := by decide +kernel
theorem dX7_wayToStop_2 : decode cX7_wayToStop 2 = .ok (.if_icmp .ge 5, 3) := by decide +kernel
theorem dX7_wayToStop_5 : decode cX7_wayToStop 5 = .ok (.iconst 0, 1) := by decide +kernel
theorem dX7_wayToStop_6 : decode cX7_wayToStop 6 = .ok (.ireturn, 1) := by decide +kernel
theorem dX7_wayToStop_7 : decode cX7_wayToStop 7 = .ok (.iload_n 0, 1) := by decide +kernel
theorem dX7_wayToStop_8 : decode cX7_wayToStop 8 = .ok (.invokestatic 209, 3) := by decide +kernel
theorem dX7_wayToStop_11 : decode cX7_wayToStop 11 = .ok (.istore_n 2, 1) := by decide +kernel
theorem dX7_wayToStop_12 : decode cX7_wayToStop 12 = .ok (.iload_n 2, 1) := by decide +kernel
theorem dX7_wayToStop_13 : decode cX7_wayToStop 13 = .ok (.iload_n 1, 1) := by decide +kernel
theorem dX7_wayToStop_14 : decode cX7_wayToStop 14 = .ok (.iadd, 1) := by decide +kernel
theorem dX7_wayToStop_15 : decode cX7_wayToStop 15 = .ok (.iconst 1, 1) := by decide +kernel
theorem dX7_wayToStop_16 : decode cX7_wayToStop 16 = .ok (.isub, 1) := by decide +kernel
theorem dX7_wayToStop_17 : decode cX7_wayToStop 17 = .ok (.iload_n 1, 1) := by decide +kernel
theorem dX7_wayToStop_18 : decode cX7_wayToStop 18 = .ok (.idiv, 1) := by decide +kernel
theorem dX7_wayToStop_19 : decode cX7_wayToStop 19 = .ok (.istore_n 3, 1) := by decide +kernel
theorem dX7_wayToStop_20 : decode cX7_wayToStop 20 = .ok (.iload_n 3, 1) := by decide +kernel
theorem dX7_wayToStop_21 : decode cX7_wayToStop 21 = .ok (.iload_n 2, 1) := by decide +kernel
theorem dX7_wayToStop_22 : decode cX7_wayToStop 22 = .ok (.imul, 1) := by decide +kernel
theorem dX7_wayToStop_23 : decode cX7_wayToStop 23 = .ok (.iload_n 1, 1) := by decide +kernel
theorem dX7_wayToStop_24 : decode cX7_wayToStop 24 = .ok (.iload_n 3, 1) := by decide +kernel
theorem dX7_wayToStop_25 : decode cX7_wayToStop 25 = .ok (.imul, 1) := by decide +kernel
theorem dX7_wayToStop_26 : decode cX7_wayToStop 26 = .ok (.iload_n 3, 1) := by decide +kernel
theorem dX7_wayToStop_27 : decode cX7_wayToStop 27 = .ok (.iconst 1, 1) := by decide +kernel
theorem dX7_wayToStop_28 : decode cX7_wayToStop 28 = .ok (.isub, 1) := by decide +kernel
theorem dX7_wayToStop_29 : decode cX7_wayToStop 29 = .ok (.imul, 1) := by decide +kernel
theorem dX7_wayToStop_30 : decode cX7_wayToStop 30 = .ok (.iconst 2, 1) := by decide +kernel
theorem dX7_wayToStop_31 : decode cX7_wayToStop 31 = .ok (.idiv, 1) := by decide +kernel
theorem dX7_wayToStop_32 : decode cX7_wayToStop 32 = .ok (.isub, 1) := by decide +kernel
theorem dX7_wayToStop_33 : decode cX7_wayToStop 33 = .ok (.ireturn, 1) := by decide +kernel
theorem dX7_halfSwing_0 : decode cX7_halfSwing 0 = .ok (.iconst 1, 1) := by decide +kernel
theorem dX7_halfSwing_1 : decode cX7_halfSwing 1 = .ok (.istore_n 1, 1) := by decide +kernel
theorem dX7_halfSwing_2 : decode cX7_halfSwing 2 = .ok (.iload_n 1, 1) := by decide +kernel
theorem dX7_halfSwing_3 : decode cX7_halfSwing 3 = .ok (.bipush 60, 2) := by decide +kernel
theorem dX7_halfSwing_5 : decode cX7_halfSwing 5 = .ok (.if_icmp .ge 21, 3) := by decide +kernel
theorem dX7_halfSwing_8 : decode cX7_halfSwing 8 = .ok (.bipush 8, 2) := by decide +kernel
theorem dX7_halfSwing_10 : decode cX7_halfSwing 10 = .ok (.iload_n 1, 1) := by decide +kernel
theorem dX7_halfSwing_11 : decode cX7_halfSwing 11 = .ok (.imul, 1) := by decide +kernel
theorem dX7_halfSwing_12 : decode cX7_halfSwing 12 = .ok (.iload_n 1, 1) := by decide +kernel
theorem dX7_halfSwing_13 : decode cX7_halfSwing 13 = .ok (.imul, 1) := by decide +kernel
theorem dX7_halfSwing_14 : decode cX7_halfSwing 14 = .ok (.iconst 5, 1) := by decide +kernel
theorem dX7_halfSwing_15 : decode cX7_halfSwing 15 = .ok (.iload_n 0, 1) := by decide +kernel
theorem dX7_halfSwing_16 : decode cX7_halfSwing 16 = .ok (.imul, 1) := by decide +kernel
theorem dX7_halfSwing_17 : decode cX7_halfSwing 17 = .ok (.if_icmp .ge 9, 3) := by decide +kernel
theorem dX7_halfSwing_20 : decode cX7_halfSwing 20 = .ok (.iinc 1 1, 3) := by decide +kernel
theorem dX7_halfSwing_23 : decode cX7_halfSwing 23 = .ok (.goto (-21), 3) := by decide +kernel
theorem dX7_halfSwing_26 : decode cX7_halfSwing 26 = .ok (.iload_n 1, 1) := by decide +kernel
theorem dX7_halfSwing_27 : decode cX7_halfSwing 27 = .ok (.ireturn, 1) := by decide +kernel
