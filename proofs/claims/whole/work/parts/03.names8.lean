set_option maxRecDepth 20000 in
theorem ggX8_init_X8_begins : GoodIn wsX8_init wsX8_begins := goodIn_r _ [15, 6, 16, 17, 18, 14, 19, 25, 26, 27, 28, 29, 30, 31, 32, 33] (by decide +kernel) (by decide +kernel)
set_option maxRecDepth 20000 in
theorem gX8_init_X8_begins : GoodIn wsX8_init (wsV RX8 28 RX8 yX8_begins wsX8_begins) := goodIn_app (goodIn_of _ (by decide +kernel)) ggX8_init_X8_begins
set_option maxRecDepth 20000 in
theorem ggX8_init_X8_takes : GoodIn wsX8_init wsX8_takes := goodIn_r _ [23, 5, 6, 24, 25, 26, 27, 28, 29, 30, 31, 32, 33] (by decide +kernel) (by decide +kernel)
set_option maxRecDepth 20000 in
theorem gX8_init_X8_takes : GoodIn wsX8_init (wsV RX8 31 RX8 yX8_takes wsX8_takes) := goodIn_app (goodIn_of _ (by decide +kernel)) ggX8_init_X8_takes
theorem dX8_init_0 : decode cX8_init 0 = .ok (.aload_n 0, 1) := by decide +kernel
theorem dX8_init_1 : decode cX8_init 1 = .ok (.invokespecial 1, 3) := by decide +kernel
theorem dX8_init_4 : decode cX8_init 4 = .ok (.aload_n 0, 1) := by decide +kernel
theorem dX8_init_5 : decode cX8_init 5 = .ok (.sipush 515, 3) := by decide +kernel
theorem dX8_init_8 : decode cX8_init 8 = .ok (.newarray .int, 2) := by decide +kernel
theorem dX8_init_10 : decode cX8_init 10 = .ok (.putfield 7, 3) := by decide +kernel
theorem dX8_init_13 : decode cX8_init 13 = .ok (.aload_n 0, 1) := by decide +kernel
theorem dX8_init_14 : decode cX8_init 14 = .ok (.sipush 515, 3) := by decide +kernel
theorem dX8_init_17 : decode cX8_init 17 = .ok (.newarray .int, 2) := by decide +kernel
theorem dX8_init_19 : decode cX8_init 19 = .ok (.putfield 13, 3) := by decide +kernel
theorem dX8_init_22 : decode cX8_init 22 = .ok (.aload_n 0, 1) := by decide +kernel
theorem dX8_init_23 : decode cX8_init 23 = .ok (.bipush 33, 2) := by decide +kernel
theorem dX8_init_25 : decode cX8_init 25 = .ok (.newarray .int, 2) := by decide +kernel
theorem dX8_init_27 : decode cX8_init 27 = .ok (.putfield 16, 3) := by decide +kernel
theorem dX8_init_30 : decode cX8_init 30 = .ok (.aload_n 0, 1) := by decide +kernel
theorem dX8_init_31 : decode cX8_init 31 = .ok (.sipush 2060, 3) := by decide +kernel
theorem dX8_init_34 : decode cX8_init 34 = .ok (.newarray .int, 2) := by decide +kernel
theorem dX8_init_36 : decode cX8_init 36 = .ok (.putfield 19, 3) := by decide +kernel
theorem dX8_init_39 : decode cX8_init 39 = .ok (.aload_n 0, 1) := by decide +kernel
theorem dX8_init_40 : decode cX8_init 40 = .ok (.sipush 200, 3) := by decide +kernel
theorem dX8_init_43 : decode cX8_init 43 = .ok (.newarray .int, 2) := by decide +kernel
theorem dX8_init_45 : decode cX8_init 45 = .ok (.putfield 22, 3) := by decide +kernel
theorem dX8_init_48 : decode cX8_init 48 = .ok (.aload_n 0, 1) := by decide +kernel
theorem dX8_init_49 : decode cX8_init 49 = .ok (.iconst 4, 1) := by decide +kernel
theorem dX8_init_50 : decode cX8_init 50 = .ok (.newarray .int, 2) := by decide +kernel
theorem dX8_init_52 : decode cX8_init 52 = .ok (.putfield 25, 3) := by decide +kernel
theorem dX8_init_55 : decode cX8_init 55 = .ok (.aload_n 0, 1) := by decide +kernel
theorem dX8_init_56 : decode cX8_init 56 = .ok (.invokevirtual 28, 3) := by decide +kernel
theorem dX8_init_59 : decode cX8_init 59 = .ok (.aload_n 0, 1) := by decide +kernel
theorem dX8_init_60 : decode cX8_init 60 = .ok (.invokevirtual 31, 3) := by decide +kernel
theorem dX8_init_63 : decode cX8_init 63 = .ok (.return_, 1) := by decide +kernel
theorem dX8_in_0 : decode cX8_in 0 = .ok (.iload_n 0, 1) := by decide +kernel
theorem dX8_in_1 : decode cX8_in 1 = .ok (.iload_n 1, 1) := by decide +kernel
theorem dX8_in_2 : decode cX8_in 2 = .ok (.if_icmp .lt 12, 3) := by decide +kernel
theorem dX8_in_5 : decode cX8_in 5 = .ok (.iload_n 0, 1) := by decide +kernel
theorem dX8_in_6 : decode cX8_in 6 = .ok (.iload_n 2, 1) := by decide +kernel
theorem dX8_in_7 : decode cX8_in 7 = .ok (.if_icmp .gt 7, 3) := by decide +kernel
theorem dX8_in_10 : decode cX8_in 10 = .ok (.iconst 1, 1) := by decide +kernel
theorem dX8_in_11 : decode cX8_in 11 = .ok (.goto 4, 3) := by decide +kernel
theorem dX8_in_14 : decode cX8_in 14 = .ok (.iconst 0, 1) := by decide +kernel
theorem dX8_in_15 : decode cX8_in 15 = .ok (.ireturn, 1) := by decide +kernel
theorem dX8_size_0 : decode cX8_size 0 = .ok (.iload_n 0, 1) := by decide +kernel
theorem dX8_size_1 : decode cX8_size 1 = .ok (.ifCond .ge 8, 3) := by decide +kernel
theorem dX8_size_4 : decode cX8_size 4 = .ok (.iload_n 0, 1) := by decide +kernel
theorem dX8_size_5 : decode cX8_size 5 = .ok (.ineg, 1) := by decide +kernel
theorem dX8_size_6 : decode cX8_size 6 = .ok (.goto 4, 3) := by decide +kernel
theorem dX8_size_9 : decode cX8_size 9 = .ok (.iload_n 0, 1) := by decide +kernel
theorem dX8_size_10 : decode cX8_size 10 = .ok (.ireturn, 1) := by decide +kernel
set_option maxRecDepth 20000 in
theorem ggX8_begins_X8_puts : GoodIn wsX8_begins wsX8_puts := goodIn_r _ [6, 1, 7, 8, 9, 10, 11, 12, 13, 14, 15] (by decide +kernel) (by decide +kernel)
set_option maxRecDepth 20000 in
theorem gX8_begins_X8_puts : GoodIn wsX8_begins (wsV RX8 34 RX8 yX8_puts wsX8_puts) := goodIn_app (goodIn_of _ (by decide +kernel)) ggX8_begins_X8_puts
theorem dX8_begins_0 : decode cX8_begins 0 = .ok (.iconst 0, 1) := by decide +kernel
theorem dX8_begins_1 : decode cX8_begins 1 = .ok (.istore_n 1, 1) := by decide +kernel
theorem dX8_begins_2 : decode cX8_begins 2 = .ok (.iload_n 1, 1) := by decide +kernel
theorem dX8_begins_3 : decode cX8_begins 3 = .ok (.sipush 515, 3) := by decide +kernel
theorem dX8_begins_6 : decode cX8_begins 6 = .ok (.if_icmp .ge 16, 3) := by decide +kernel
theorem dX8_begins_9 : decode cX8_begins 9 = .ok (.aload_n 0, 1) := by decide +kernel
theorem dX8_begins_10 : decode cX8_begins 10 = .ok (.getfield 13, 3) := by decide +kernel
theorem dX8_begins_13 : decode cX8_begins 13 = .ok (.iload_n 1, 1) := by decide +kernel
theorem dX8_begins_14 : decode cX8_begins 14 = .ok (.iconst 0, 1) := by decide +kernel
theorem dX8_begins_15 : decode cX8_begins 15 = .ok (.iastore, 1) := by decide +kernel
theorem dX8_begins_16 : decode cX8_begins 16 = .ok (.iinc 1 1, 3) := by decide +kernel
theorem dX8_begins_19 : decode cX8_begins 19 = .ok (.goto (-17), 3) := by decide +kernel
theorem dX8_begins_22 : decode cX8_begins 22 = .ok (.aload_n 0, 1) := by decide +kernel
theorem dX8_begins_23 : decode cX8_begins 23 = .ok (.getfield 13, 3) := by decide +kernel
theorem dX8_begins_26 : decode cX8_begins 26 = .ok (.iconst 0, 1) := by decide +kernel
theorem dX8_begins_27 : decode cX8_begins 27 = .ok (.sipush 600, 3) := by decide +kernel
theorem dX8_begins_30 : decode cX8_begins 30 = .ok (.iastore, 1) := by decide +kernel
theorem dX8_begins_31 : decode cX8_begins 31 = .ok (.aload_n 0, 1) := by decide +kernel
theorem dX8_begins_32 : decode cX8_begins 32 = .ok (.getfield 13, 3) := by decide +kernel
theorem dX8_begins_35 : decode cX8_begins 35 = .ok (.iconst 1, 1) := by decide +kernel
theorem dX8_begins_36 : decode cX8_begins 36 = .ok (.bipush 40, 2) := by decide +kernel
theorem dX8_begins_38 : decode cX8_begins 38 = .ok (.iastore, 1) := by decide +kernel
theorem dX8_begins_39 : decode cX8_begins 39 = .ok (.aload_n 0, 1) := by decide +kernel
theorem dX8_begins_40 : decode cX8_begins 40 = .ok (.getfield 13, 3) := by decide +kernel
theorem dX8_begins_43 : decode cX8_begins 43 = .ok (.iconst 2, 1) := by decide +kernel
theorem dX8_begins_44 : decode cX8_begins 44 = .ok (.iconst 2, 1) := by decide +kernel
theorem dX8_begins_45 : decode cX8_begins 45 = .ok (.iastore, 1) := by decide +kernel
theorem dX8_begins_46 : decode cX8_begins 46 = .ok (.aload_n 0, 1) := by decide +kernel
theorem dX8_begins_47 : decode cX8_begins 47 = .ok (.getfield 13, 3) := by decide +kernel
theorem dX8_begins_50 : decode cX8_begins 50 = .ok (.iconst 3, 1) := by decide +kernel
theorem dX8_begins_51 : decode cX8_begins 51 = .ok (.bipush 12, 2) := by decide +kernel
theorem dX8_begins_53 : decode cX8_begins 53 = .ok (.iastore, 1) := by decide +kernel
theorem dX8_begins_54 : decode cX8_begins 54 = .ok (.aload_n 0, 1) := by decide +kernel
theorem dX8_begins_55 : decode cX8_begins 55 = .ok (.getfield 13, 3) := by decide +kernel
theorem dX8_begins_58 : decode cX8_begins 58 = .ok (.iconst 4, 1) := by decide +kernel
theorem dX8_begins_59 : decode cX8_begins 59 = .ok (.bipush 6, 2) := by decide +kernel
theorem dX8_begins_61 : decode cX8_begins 61 = .ok (.iastore, 1) := by decide +kernel
theorem dX8_begins_62 : decode cX8_begins 62 = .ok (.aload_n 0, 1) := by decide +kernel
theorem dX8_begins_63 : decode cX8_begins 63 = .ok (.getfield 13, 3) := by decide +kernel
theorem dX8_begins_66 : decode cX8_begins 66 = .ok (.iconst 5, 1) := by decide +kernel
theorem dX8_begins_67 : decode cX8_begins 67 = .ok (.bipush (-4), 2) := by decide +kernel
theorem dX8_begins_69 : decode cX8_begins 69 = .ok (.iastore, 1) := by decide +kernel
theorem dX8_begins_70 : decode cX8_begins 70 = .ok (.aload_n 0, 1) := by decide +kernel
theorem dX8_begins_71 : decode cX8_begins 71 = .ok (.iconst 0, 1) := by decide +kernel
theorem dX8_begins_72 : decode cX8_begins 72 = .ok (.bipush 100, 2) := by decide +kernel
theorem dX8_begins_74 : decode cX8_begins 74 = .ok (.bipush 30, 2) := by decide +kernel
theorem dX8_begins_76 : decode cX8_begins 76 = .ok (.iconst 0, 1) := by decide +kernel
theorem dX8_begins_77 : decode cX8_begins 77 = .ok (.invokevirtual 34, 3) := by decide +kernel
theorem dX8_begins_80 : decode cX8_begins 80 = .ok (.aload_n 0, 1) := by decide +kernel
theorem dX8_begins_81 : decode cX8_begins 81 = .ok (.iconst 1, 1) := by decide +kernel
theorem dX8_begins_82 : decode cX8_begins 82 = .ok (.sipush 500, 3) := by decide +kernel
theorem dX8_begins_85 : decode cX8_begins 85 = .ok (.bipush 30, 2) := by decide +kernel
theorem dX8_begins_87 : decode cX8_begins 87 = .ok (.iconst 0, 1) := by decide +kernel
theorem dX8_begins_88 : decode cX8_begins 88 = .ok (.invokevirtual 34, 3) := by decide +kernel
theorem dX8_begins_91 : decode cX8_begins 91 = .ok (.return_, 1) := by decide +kernel
theorem dX8_puts_0 : decode cX8_puts 0 = .ok (.bipush 7, 2) := by decide +kernel
theorem dX8_puts_2 : decode cX8_puts 2 = .ok (.bipush 13, 2) := by decide +kernel
theorem dX8_puts_4 : decode cX8_puts 4 = .ok (.iload_n 1, 1) := by decide +kernel
theorem dX8_puts_5 : decode cX8_puts 5 = .ok (.imul, 1) := by decide +kernel
theorem dX8_puts_6 : decode cX8_puts 6 = .ok (.iadd, 1) := by decide +kernel
theorem dX8_puts_7 : decode cX8_puts 7 = .ok (.istore 5, 2) := by decide +kernel
theorem dX8_puts_9 : decode cX8_puts 9 = .ok (.aload_n 0, 1) := by decide +kernel
theorem dX8_puts_10 : decode cX8_puts 10 = .ok (.getfield 13, 3) := by decide +kernel
theorem dX8_puts_13 : decode cX8_puts 13 = .ok (.iload 5, 2) := by decide +kernel
theorem dX8_puts_15 : decode cX8_puts 15 = .ok (.iconst 0, 1) := by decide +kernel
theorem dX8_puts_16 : decode cX8_puts 16 = .ok (.iadd, 1) := by decide +kernel
theorem dX8_puts_17 : decode cX8_puts 17 = .ok (.iload_n 2, 1) := by decide +kernel
theorem dX8_puts_18 : decode cX8_puts 18 = .ok (.iastore, 1) := by decide +kernel
theorem dX8_puts_19 : decode cX8_puts 19 = .ok (.aload_n 0, 1) := by decide +kernel
theorem dX8_puts_20 : decode cX8_puts 20 = .ok (.getfield 13, 3) := by decide +kernel
theorem dX8_puts_23 : decode cX8_puts 23 = .ok (.iload 5, 2) := by decide +kernel
theorem dX8_puts_25 : decode cX8_puts 25 = .ok (.iconst 2, 1) := by decide +kernel
theorem dX8_puts_26 : decode cX8_puts 26 = .ok (.iadd, 1) := by decide +kernel
theorem dX8_puts_27 : decode cX8_puts 27 = .ok (.iload_n 3, 1) := by decide +kernel
theorem dX8_puts_28 : decode cX8_puts 28 = .ok (.iastore, 1) := by decide +kernel
theorem dX8_puts_29 : decode cX8_puts 29 = .ok (.aload_n 0, 1) := by decide +kernel
theorem dX8_puts_30 : decode cX8_puts 30 = .ok (.getfield 13, 3) := by decide +kernel
theorem dX8_puts_33 : decode cX8_puts 33 = .ok (.iload 5, 2) := by decide +kernel
theorem dX8_puts_35 : decode cX8_puts 35 = .ok (.iconst 3, 1) := by decide +kernel
theorem dX8_puts_36 : decode cX8_puts 36 = .ok (.iadd, 1) := by decide +kernel
theorem dX8_puts_37 : decode cX8_puts 37 = .ok (.iload 4, 2) := by decide +kernel
theorem dX8_puts_39 : decode cX8_puts 39 = .ok (.iastore, 1) := by decide +kernel
theorem dX8_puts_40 : decode cX8_puts 40 = .ok (.aload_n 0, 1) := by decide +kernel
theorem dX8_puts_41 : decode cX8_puts 41 = .ok (.getfield 13, 3) := by decide +kernel
theorem dX8_puts_44 : decode cX8_puts 44 = .ok (.iload 5, 2) := by decide +kernel
theorem dX8_puts_46 : decode cX8_puts 46 = .ok (.bipush 7, 2) := by decide +kernel
theorem dX8_puts_48 : decode cX8_puts 48 = .ok (.iadd, 1) := by decide +kernel
theorem dX8_puts_49 : decode cX8_puts 49 = .ok (.iload_n 3, 1) := by decide +kernel
theorem dX8_puts_50 : decode cX8_puts 50 = .ok (.iastore, 1) := by decide +kernel
theorem dX8_puts_51 : decode cX8_puts 51 = .ok (.return_, 1) := by decide +kernel
theorem dX8_takes_0 : decode cX8_takes 0 = .ok (.iconst 0, 1) := by decide +kernel
theorem dX8_takes_1 : decode cX8_takes 1 = .ok (.istore_n 1, 1) := by decide +kernel
theorem dX8_takes_2 : decode cX8_takes 2 = .ok (.iload_n 1, 1) := by decide +kernel
theorem dX8_takes_3 : decode cX8_takes 3 = .ok (.sipush 515, 3) := by decide +kernel
theorem dX8_takes_6 : decode cX8_takes 6 = .ok (.if_icmp .ge 21, 3) := by decide +kernel
theorem dX8_takes_9 : decode cX8_takes 9 = .ok (.aload_n 0, 1) := by decide +kernel
theorem dX8_takes_10 : decode cX8_takes 10 = .ok (.getfield 7, 3) := by decide +kernel
theorem dX8_takes_13 : decode cX8_takes 13 = .ok (.iload_n 1, 1) := by decide +kernel
theorem dX8_takes_14 : decode cX8_takes 14 = .ok (.aload_n 0, 1) := by decide +kernel
theorem dX8_takes_15 : decode cX8_takes 15 = .ok (.getfield 13, 3) := by decide +kernel
theorem dX8_takes_18 : decode cX8_takes 18 = .ok (.iload_n 1, 1) := by decide +kernel
theorem dX8_takes_19 : decode cX8_takes 19 = .ok (.iaload, 1) := by decide +kernel
theorem dX8_takes_20 : decode cX8_takes 20 = .ok (.iastore, 1) := by decide +kernel
theorem dX8_takes_21 : decode cX8_takes 21 = .ok (.iinc 1 1, 3) := by decide +kernel
theorem dX8_takes_24 : decode cX8_takes 24 = .ok (.goto (-22), 3) := by decide +kernel
theorem dX8_takes_27 : decode cX8_takes 27 = .ok (.aload_n 0, 1) := by decide +kernel
theorem dX8_takes_28 : decode cX8_takes 28 = .ok (.iconst 0, 1) := by decide +kernel
theorem dX8_takes_29 : decode cX8_takes 29 = .ok (.putfield 38, 3) := by decide +kernel
theorem dX8_takes_32 : decode cX8_takes 32 = .ok (.return_, 1) := by decide +kernel
set_option maxRecDepth 20000 in
theorem ggX8_isAt_X8_in : GoodIn wsX8_isAt wsX8_in := goodIn_r _ [7] (by decide +kernel) (by decide +kernel)
set_option maxRecDepth 20000 in
theorem gX8_isAt_X8_in : GoodIn wsX8_isAt (va_wsS RX8 48 yX8_in wsX8_in) := goodIn_app (goodIn_of _ (by decide +kernel)) ggX8_isAt_X8_in
theorem dX8_isAt_0 : decode cX8_isAt 0 = .ok (.aload_n 0, 1) := by decide +kernel
theorem dX8_isAt_1 : decode cX8_isAt 1 = .ok (.getfield 42, 3) := by decide +kernel
theorem dX8_isAt_4 : decode cX8_isAt 4 = .ok (.aload_n 0, 1) := by decide +kernel
theorem dX8_isAt_5 : decode cX8_isAt 5 = .ok (.getfield 45, 3) := by decide +kernel
theorem dX8_isAt_8 : decode cX8_isAt 8 = .ok (.if_icmp .ge 24, 3) := by decide +kernel
theorem dX8_isAt_11 : decode cX8_isAt 11 = .ok (.aload_n 0, 1) := by decide +kernel
theorem dX8_isAt_12 : decode cX8_isAt 12 = .ok (.getfield 22, 3) := by decide +kernel
theorem dX8_isAt_15 : decode cX8_isAt 15 = .ok (.aload_n 0, 1) := by decide +kernel
theorem dX8_isAt_16 : decode cX8_isAt 16 = .ok (.getfield 42, 3) := by decide +kernel
theorem dX8_isAt_19 : decode cX8_isAt 19 = .ok (.iaload, 1) := by decide +kernel
theorem dX8_isAt_20 : decode cX8_isAt 20 = .ok (.iload_n 1, 1) := by decide +kernel
theorem dX8_isAt_21 : decode cX8_isAt 21 = .ok (.iload_n 2, 1) := by decide +kernel
theorem dX8_isAt_22 : decode cX8_isAt 22 = .ok (.invokestatic 48, 3) := by decide +kernel
theorem dX8_isAt_25 : decode cX8_isAt 25 = .ok (.ifCond .eq 7, 3) := by decide +kernel
theorem dX8_isAt_28 : decode cX8_isAt 28 = .ok (.iconst 1, 1) := by decide +kernel
theorem dX8_isAt_29 : decode cX8_isAt 29 = .ok (.goto 4, 3) := by decide +kernel
theorem dX8_isAt_32 : decode cX8_isAt 32 = .ok (.iconst 0, 1) := by decide +kernel
theorem dX8_isAt_33 : decode cX8_isAt 33 = .ok (.ireturn, 1) := by decide +kernel
set_option maxRecDepth 20000 in
theorem ggX8_takesNumber_X8_isAt : GoodIn wsX8_takesNumber wsX8_isAt := goodIn_r _ [8, 1, 9, 3, 10, 11, 7, 12, 13, 14, 15, 16, 17, 18, 19, 20, 21] (by decide +kernel) (by decide +kernel)
set_option maxRecDepth 20000 in
theorem gX8_takesNumber_X8_isAt : GoodIn wsX8_takesNumber (wsV RX8 52 RX8 yX8_isAt wsX8_isAt) := goodIn_app (goodIn_of _ (by decide +kernel)) ggX8_takesNumber_X8_isAt
theorem dX8_takesNumber_0 : decode cX8_takesNumber 0 = .ok (.aload_n 0, 1) := by decide +kernel
theorem dX8_takesNumber_1 : decode cX8_takesNumber 1 = .ok (.getfield 42, 3) := by decide +kernel
theorem dX8_takesNumber_4 : decode cX8_takesNumber 4 = .ok (.istore_n 2, 1) := by decide +kernel
theorem dX8_takesNumber_5 : decode cX8_takesNumber 5 = .ok (.aload_n 0, 1) := by decide +kernel
theorem dX8_takesNumber_6 : decode cX8_takesNumber 6 = .ok (.getfield 25, 3) := by decide +kernel
theorem dX8_takesNumber_9 : decode cX8_takesNumber 9 = .ok (.iload_n 1, 1) := by decide +kernel
theorem dX8_takesNumber_10 : decode cX8_takesNumber 10 = .ok (.iconst 0, 1) := by decide +kernel
theorem dX8_takesNumber_11 : decode cX8_takesNumber 11 = .ok (.iastore, 1) := by decide +kernel
theorem dX8_takesNumber_12 : decode cX8_takesNumber 12 = .ok (.aload_n 0, 1) := by decide +kernel
theorem dX8_takesNumber_13 : decode cX8_takesNumber 13 = .ok (.getfield 42, 3) := by decide +kernel
theorem dX8_takesNumber_16 : decode cX8_takesNumber 16 = .ok (.iload_n 2, 1) := by decide +kernel
theorem dX8_takesNumber_17 : decode cX8_takesNumber 17 = .ok (.iconst 3, 1) := by decide +kernel
theorem dX8_takesNumber_18 : decode cX8_takesNumber 18 = .ok (.iadd, 1) := by decide +kernel
theorem dX8_takesNumber_19 : decode cX8_takesNumber 19 = .ok (.if_icmp .ge 55, 3) := by decide +kernel
theorem dX8_takesNumber_22 : decode cX8_takesNumber 22 = .ok (.aload_n 0, 1) := by decide +kernel
theorem dX8_takesNumber_23 : decode cX8_takesNumber 23 = .ok (.bipush 48, 2) := by decide +kernel
theorem dX8_takesNumber_25 : decode cX8_takesNumber 25 = .ok (.bipush 57, 2) := by decide +kernel
theorem dX8_takesNumber_27 : decode cX8_takesNumber 27 = .ok (.invokevirtual 52, 3) := by decide +kernel
theorem dX8_takesNumber_30 : decode cX8_takesNumber 30 = .ok (.ifCond .eq 44, 3) := by decide +kernel
theorem dX8_takesNumber_33 : decode cX8_takesNumber 33 = .ok (.aload_n 0, 1) := by decide +kernel
theorem dX8_takesNumber_34 : decode cX8_takesNumber 34 = .ok (.getfield 25, 3) := by decide +kernel
theorem dX8_takesNumber_37 : decode cX8_takesNumber 37 = .ok (.iload_n 1, 1) := by decide +kernel
theorem dX8_takesNumber_38 : decode cX8_takesNumber 38 = .ok (.bipush 10, 2) := by decide +kernel
theorem dX8_takesNumber_40 : decode cX8_takesNumber 40 = .ok (.aload_n 0, 1) := by decide +kernel
theorem dX8_takesNumber_41 : decode cX8_takesNumber 41 = .ok (.getfield 25, 3) := by decide +kernel
theorem dX8_takesNumber_44 : decode cX8_takesNumber 44 = .ok (.iload_n 1, 1) := by decide +kernel
theorem dX8_takesNumber_45 : decode cX8_takesNumber 45 = .ok (.iaload, 1) := by decide +kernel
theorem dX8_takesNumber_46 : decode cX8_takesNumber 46 = .ok (.imul, 1) := by decide +kernel
theorem dX8_takesNumber_47 : decode cX8_takesNumber 47 = .ok (.aload_n 0, 1) := by decide +kernel
theorem dX8_takesNumber_48 : decode cX8_takesNumber 48 = .ok (.getfield 22, 3) := by decide +kernel
theorem dX8_takesNumber_51 : decode cX8_takesNumber 51 = .ok (.aload_n 0, 1) := by decide +kernel
theorem dX8_takesNumber_52 : decode cX8_takesNumber 52 = .ok (.getfield 42, 3) := by decide +kernel
theorem dX8_takesNumber_55 : decode cX8_takesNumber 55 = .ok (.iaload, 1) := by decide +kernel
theorem dX8_takesNumber_56 : decode cX8_takesNumber 56 = .ok (.iadd, 1) := by decide +kernel
theorem dX8_takesNumber_57 : decode cX8_takesNumber 57 = .ok (.bipush 48, 2) := by decide +kernel
theorem dX8_takesNumber_59 : decode cX8_takesNumber 59 = .ok (.isub, 1) := by decide +kernel
theorem dX8_takesNumber_60 : decode cX8_takesNumber 60 = .ok (.iastore, 1) := by decide +kernel
theorem dX8_takesNumber_61 : decode cX8_takesNumber 61 = .ok (.aload_n 0, 1) := by decide +kernel
theorem dX8_takesNumber_62 : decode cX8_takesNumber 62 = .ok (.dup, 1) := by decide +kernel
theorem dX8_takesNumber_63 : decode cX8_takesNumber 63 = .ok (.getfield 42, 3) := by decide +kernel
theorem dX8_takesNumber_66 : decode cX8_takesNumber 66 = .ok (.iconst 1, 1) := by decide +kernel
theorem dX8_takesNumber_67 : decode cX8_takesNumber 67 = .ok (.iadd, 1) := by decide +kernel
theorem dX8_takesNumber_68 : decode cX8_takesNumber 68 = .ok (.putfield 42, 3) := by decide +kernel
theorem dX8_takesNumber_71 : decode cX8_takesNumber 71 = .ok (.goto (-59), 3) := by decide +kernel
theorem dX8_takesNumber_74 : decode cX8_takesNumber 74 = .ok (.aload_n 0, 1) := by decide +kernel
theorem dX8_takesNumber_75 : decode cX8_takesNumber 75 = .ok (.getfield 42, 3) := by decide +kernel
theorem dX8_takesNumber_78 : decode cX8_takesNumber 78 = .ok (.iload_n 2, 1) := by decide +kernel
theorem dX8_takesNumber_79 : decode cX8_takesNumber 79 = .ok (.if_icmp .le 7, 3) := by decide +kernel
theorem dX8_takesNumber_82 : decode cX8_takesNumber 82 = .ok (.iconst 1, 1) := by decide +kernel
theorem dX8_takesNumber_83 : decode cX8_takesNumber 83 = .ok (.goto 4, 3) := by decide +kernel
theorem dX8_takesNumber_86 : decode cX8_takesNumber 86 = .ok (.iconst 0, 1) := by decide +kernel
theorem dX8_takesNumber_87 : decode cX8_takesNumber 87 = .ok (.ireturn, 1) := by decide +kernel
set_option maxRecDepth 20000 in
theorem ggX8_takesNumbers_X8_takesNumber : GoodIn wsX8_takesNumbers wsX8_takesNumber := goodIn_r _ [6, 1, 7, 8, 9, 10, 11, 5, 12, 13, 14, 15, 16, 17, 18, 19, 20, 21, 22, 23, 24, 25] (by decide +kernel) (by decide +kernel)
set_option maxRecDepth 20000 in
theorem gX8_takesNumbers_X8_takesNumber : GoodIn wsX8_takesNumbers (wsV RX8 56 RX8 yX8_takesNumber wsX8_takesNumber) := goodIn_app (goodIn_of _ (by decide +kernel)) ggX8_takesNumbers_X8_takesNumber
set_option maxRecDepth 20000 in
theorem ggX8_takesNumbers_X8_isAt : GoodIn wsX8_takesNumbers wsX8_isAt := goodIn_r _ [12, 1, 13, 8, 14, 15, 5, 16, 17, 18, 19, 20, 21, 22, 23, 24, 25] (by decide +kernel) (by decide +kernel)
set_option maxRecDepth 20000 in
theorem gX8_takesNumbers_X8_isAt : GoodIn wsX8_takesNumbers (wsV RX8 52 RX8 yX8_isAt wsX8_isAt) := goodIn_app (goodIn_of _ (by decide +kernel)) ggX8_takesNumbers_X8_isAt
theorem dX8_takesNumbers_0 : decode cX8_takesNumbers 0 = .ok (.iconst 0, 1) := by decide +kernel
theorem dX8_takesNumbers_1 : decode cX8_takesNumbers 1 = .ok (.istore_n 2, 1) := by decide +kernel
theorem dX8_takesNumbers_2 : decode cX8_takesNumbers 2 = .ok (.iload_n 2, 1) := by decide +kernel
theorem dX8_takesNumbers_3 : decode cX8_takesNumbers 3 = .ok (.iload_n 1, 1) := by decide +kernel
theorem dX8_takesNumbers_4 : decode cX8_takesNumbers 4 = .ok (.if_icmp .ge 53, 3) := by decide +kernel
theorem dX8_takesNumbers_7 : decode cX8_takesNumbers 7 = .ok (.iload_n 2, 1) := by decide +kernel
theorem dX8_takesNumbers_8 : decode cX8_takesNumbers 8 = .ok (.iload_n 1, 1) := by decide +kernel
theorem dX8_takesNumbers_9 : decode cX8_takesNumbers 9 = .ok (.iconst 1, 1) := by decide +kernel
theorem dX8_takesNumbers_10 : decode cX8_takesNumbers 10 = .ok (.isub, 1) := by decide +kernel
theorem dX8_takesNumbers_11 : decode cX8_takesNumbers 11 = .ok (.if_icmp .ne 8, 3) := by decide +kernel
theorem dX8_takesNumbers_14 : decode cX8_takesNumbers 14 = .ok (.bipush 59, 2) := by decide +kernel
theorem dX8_takesNumbers_16 : decode cX8_takesNumbers 16 = .ok (.goto 5, 3) := by decide +kernel
theorem dX8_takesNumbers_19 : decode cX8_takesNumbers 19 = .ok (.bipush 44, 2) := by decide +kernel
theorem dX8_takesNumbers_21 : decode cX8_takesNumbers 21 = .ok (.istore_n 3, 1) := by decide +kernel
theorem dX8_takesNumbers_22 : decode cX8_takesNumbers 22 = .ok (.aload_n 0, 1) := by decide +kernel
theorem dX8_takesNumbers_23 : decode cX8_takesNumbers 23 = .ok (.iload_n 2, 1) := by decide +kernel
theorem dX8_takesNumbers_24 : decode cX8_takesNumbers 24 = .ok (.invokevirtual 56, 3) := by decide +kernel
theorem dX8_takesNumbers_27 : decode cX8_takesNumbers 27 = .ok (.ifCond .eq 12, 3) := by decide +kernel
theorem dX8_takesNumbers_30 : decode cX8_takesNumbers 30 = .ok (.aload_n 0, 1) := by decide +kernel
theorem dX8_takesNumbers_31 : decode cX8_takesNumbers 31 = .ok (.iload_n 3, 1) := by decide +kernel
theorem dX8_takesNumbers_32 : decode cX8_takesNumbers 32 = .ok (.iload_n 3, 1) := by decide +kernel
theorem dX8_takesNumbers_33 : decode cX8_takesNumbers 33 = .ok (.invokevirtual 52, 3) := by decide +kernel
theorem dX8_takesNumbers_36 : decode cX8_takesNumbers 36 = .ok (.ifCond .ne 5, 3) := by decide +kernel
theorem dX8_takesNumbers_39 : decode cX8_takesNumbers 39 = .ok (.iconst 0, 1) := by decide +kernel
theorem dX8_takesNumbers_40 : decode cX8_takesNumbers 40 = .ok (.ireturn, 1) := by decide +kernel
theorem dX8_takesNumbers_41 : decode cX8_takesNumbers 41 = .ok (.aload_n 0, 1) := by decide +kernel
theorem dX8_takesNumbers_42 : decode cX8_takesNumbers 42 = .ok (.dup, 1) := by decide +kernel
theorem dX8_takesNumbers_43 : decode cX8_takesNumbers 43 = .ok (.getfield 42, 3) := by decide +kernel
theorem dX8_takesNumbers_46 : decode cX8_takesNumbers 46 = .ok (.iconst 1, 1) := by decide +kernel
theorem dX8_takesNumbers_47 : decode cX8_takesNumbers 47 = .ok (.iadd, 1) := by decide +kernel
theorem dX8_takesNumbers_48 : decode cX8_takesNumbers 48 = .ok (.putfield 42, 3) := by decide +kernel
theorem dX8_takesNumbers_51 : decode cX8_takesNumbers 51 = .ok (.iinc 2 1, 3) := by decide +kernel
theorem dX8_takesNumbers_54 : decode cX8_takesNumbers 54 = .ok (.goto (-52), 3) := by decide +kernel
theorem dX8_takesNumbers_57 : decode cX8_takesNumbers 57 = .ok (.iconst 1, 1) := by decide +kernel
theorem dX8_takesNumbers_58 : decode cX8_takesNumbers 58 = .ok (.ireturn, 1) := by decide +kernel
set_option maxRecDepth 20000 in
theorem ggX8_takesOne_X8_takesNumbers : GoodIn wsX8_takesOne wsX8_takesNumbers := goodIn_r _ [7, 8, 9, 10, 11, 6, 12, 1, 13, 14, 15, 16, 17, 18, 19, 20, 21, 22, 23, 24, 25, 26, 27, 28, 29, 30] (by decide +kernel) (by decide +kernel)
set_option maxRecDepth 20000 in
theorem gX8_takesOne_X8_takesNumbers : GoodIn wsX8_takesOne (wsV RX8 60 RX8 yX8_takesNumbers wsX8_takesNumbers) := goodIn_app (goodIn_of _ (by decide +kernel)) ggX8_takesOne_X8_takesNumbers
set_option maxRecDepth 20000 in
theorem ggX8_takesOne_X8_in : GoodIn wsX8_takesOne wsX8_in := goodIn_r _ [21] (by decide +kernel) (by decide +kernel)
set_option maxRecDepth 20000 in
theorem gX8_takesOne_X8_in : GoodIn wsX8_takesOne (va_wsS RX8 48 yX8_in wsX8_in) := goodIn_app (goodIn_of _ (by decide +kernel)) ggX8_takesOne_X8_in
theorem dX8_takesOne_0 : decode cX8_takesOne 0 = .ok (.aload_n 0, 1) := by decide +kernel
theorem dX8_takesOne_1 : decode cX8_takesOne 1 = .ok (.iconst 1, 1) := by decide +kernel
theorem dX8_takesOne_2 : decode cX8_takesOne 2 = .ok (.invokevirtual 60, 3) := by decide +kernel
theorem dX8_takesOne_5 : decode cX8_takesOne 5 = .ok (.ifCond .eq 21, 3) := by decide +kernel
theorem dX8_takesOne_8 : decode cX8_takesOne 8 = .ok (.aload_n 0, 1) := by decide +kernel
theorem dX8_takesOne_9 : decode cX8_takesOne 9 = .ok (.getfield 25, 3) := by decide +kernel
theorem dX8_takesOne_12 : decode cX8_takesOne 12 = .ok (.iconst 0, 1) := by decide +kernel
theorem dX8_takesOne_13 : decode cX8_takesOne 13 = .ok (.iaload, 1) := by decide +kernel
theorem dX8_takesOne_14 : decode cX8_takesOne 14 = .ok (.iload_n 2, 1) := by decide +kernel
theorem dX8_takesOne_15 : decode cX8_takesOne 15 = .ok (.iload_n 3, 1) := by decide +kernel
theorem dX8_takesOne_16 : decode cX8_takesOne 16 = .ok (.invokestatic 48, 3) := by decide +kernel
theorem dX8_takesOne_19 : decode cX8_takesOne 19 = .ok (.ifCond .eq 7, 3) := by decide +kernel
theorem dX8_takesOne_22 : decode cX8_takesOne 22 = .ok (.iconst 1, 1) := by decide +kernel
theorem dX8_takesOne_23 : decode cX8_takesOne 23 = .ok (.goto 4, 3) := by decide +kernel
theorem dX8_takesOne_26 : decode cX8_takesOne 26 = .ok (.iconst 0, 1) := by decide +kernel
theorem dX8_takesOne_27 : decode cX8_takesOne 27 = .ok (.istore 4, 2) := by decide +kernel
theorem dX8_takesOne_29 : decode cX8_takesOne 29 = .ok (.aload_n 0, 1) := by decide +kernel
theorem dX8_takesOne_30 : decode cX8_takesOne 30 = .ok (.getfield 13, 3) := by decide +kernel
theorem dX8_takesOne_33 : decode cX8_takesOne 33 = .ok (.iload_n 1, 1) := by decide +kernel
theorem dX8_takesOne_34 : decode cX8_takesOne 34 = .ok (.iload 4, 2) := by decide +kernel
theorem dX8_takesOne_36 : decode cX8_takesOne 36 = .ok (.ifCond .eq 12, 3) := by decide +kernel
theorem dX8_takesOne_39 : decode cX8_takesOne 39 = .ok (.aload_n 0, 1) := by decide +kernel
theorem dX8_takesOne_40 : decode cX8_takesOne 40 = .ok (.getfield 25, 3) := by decide +kernel
theorem dX8_takesOne_43 : decode cX8_takesOne 43 = .ok (.iconst 0, 1) := by decide +kernel
theorem dX8_takesOne_44 : decode cX8_takesOne 44 = .ok (.iaload, 1) := by decide +kernel
theorem dX8_takesOne_45 : decode cX8_takesOne 45 = .ok (.goto 9, 3) := by decide +kernel
theorem dX8_takesOne_48 : decode cX8_takesOne 48 = .ok (.aload_n 0, 1) := by decide +kernel
theorem dX8_takesOne_49 : decode cX8_takesOne 49 = .ok (.getfield 13, 3) := by decide +kernel
theorem dX8_takesOne_52 : decode cX8_takesOne 52 = .ok (.iload_n 1, 1) := by decide +kernel
theorem dX8_takesOne_53 : decode cX8_takesOne 53 = .ok (.iaload, 1) := by decide +kernel
theorem dX8_takesOne_54 : decode cX8_takesOne 54 = .ok (.iastore, 1) := by decide +kernel
theorem dX8_takesOne_55 : decode cX8_takesOne 55 = .ok (.iload 4, 2) := by decide +kernel
theorem dX8_takesOne_57 : decode cX8_takesOne 57 = .ok (.ireturn, 1) := by decide +kernel
set_option maxRecDepth 20000 in
theorem ggX8_takesCrane_X8_takesNumbers : GoodIn wsX8_takesCrane wsX8_takesNumbers := goodIn_r _ [6, 7, 8, 9, 10, 5, 11, 1, 12, 13, 14, 15, 16, 17, 18, 19, 20, 26, 27, 28, 29, 30, 31, 32, 33, 34] (by decide +kernel) (by decide +kernel)
set_option maxRecDepth 20000 in
theorem gX8_takesCrane_X8_takesNumbers : GoodIn wsX8_takesCrane (wsV RX8 60 RX8 yX8_takesNumbers wsX8_takesNumbers) := goodIn_app (goodIn_of _ (by decide +kernel)) ggX8_takesCrane_X8_takesNumbers
set_option maxRecDepth 20000 in
theorem ggX8_takesCrane_X8_in : GoodIn wsX8_takesCrane wsX8_in := goodIn_r _ [20] (by decide +kernel) (by decide +kernel)
set_option maxRecDepth 20000 in
theorem gX8_takesCrane_X8_in : GoodIn wsX8_takesCrane (va_wsS RX8 48 yX8_in wsX8_in) := goodIn_app (goodIn_of _ (by decide +kernel)) ggX8_takesCrane_X8_in
set_option maxRecDepth 20000 in
theorem ggX8_takesCrane_X8_puts : GoodIn wsX8_takesCrane wsX8_puts := goodIn_r _ [24, 25, 26, 27, 28, 29, 30, 31, 32, 33, 34] (by decide +kernel) (by decide +kernel)
set_option maxRecDepth 20000 in
theorem gX8_takesCrane_X8_puts : GoodIn wsX8_takesCrane (wsV RX8 34 RX8 yX8_puts wsX8_puts) := goodIn_app (goodIn_of _ (by decide +kernel)) ggX8_takesCrane_X8_puts
theorem dX8_takesCrane_0 : decode cX8_takesCrane 0 = .ok (.aload_n 0, 1) := by decide +kernel
theorem dX8_takesCrane_1 : decode cX8_takesCrane 1 = .ok (.iconst 4, 1) := by decide +kernel
theorem dX8_takesCrane_2 : decode cX8_takesCrane 2 = .ok (.invokevirtual 60, 3) := by decide +kernel
theorem dX8_takesCrane_5 : decode cX8_takesCrane 5 = .ok (.ifCond .eq 44, 3) := by decide +kernel
theorem dX8_takesCrane_8 : decode cX8_takesCrane 8 = .ok (.aload_n 0, 1) := by decide +kernel
theorem dX8_takesCrane_9 : decode cX8_takesCrane 9 = .ok (.getfield 25, 3) := by decide +kernel
theorem dX8_takesCrane_12 : decode cX8_takesCrane 12 = .ok (.iconst 0, 1) := by decide +kernel
theorem dX8_takesCrane_13 : decode cX8_takesCrane 13 = .ok (.iaload, 1) := by decide +kernel
theorem dX8_takesCrane_14 : decode cX8_takesCrane 14 = .ok (.iconst 2, 1) := by decide +kernel
theorem dX8_takesCrane_15 : decode cX8_takesCrane 15 = .ok (.if_icmp .ge 34, 3) := by decide +kernel
theorem dX8_takesCrane_18 : decode cX8_takesCrane 18 = .ok (.aload_n 0, 1) := by decide +kernel
theorem dX8_takesCrane_19 : decode cX8_takesCrane 19 = .ok (.getfield 25, 3) := by decide +kernel
theorem dX8_takesCrane_22 : decode cX8_takesCrane 22 = .ok (.iconst 2, 1) := by decide +kernel
theorem dX8_takesCrane_23 : decode cX8_takesCrane 23 = .ok (.iaload, 1) := by decide +kernel
theorem dX8_takesCrane_24 : decode cX8_takesCrane 24 = .ok (.bipush 10, 2) := by decide +kernel
theorem dX8_takesCrane_26 : decode cX8_takesCrane 26 = .ok (.bipush 60, 2) := by decide +kernel
theorem dX8_takesCrane_28 : decode cX8_takesCrane 28 = .ok (.invokestatic 48, 3) := by decide +kernel
theorem dX8_takesCrane_31 : decode cX8_takesCrane 31 = .ok (.ifCond .eq 18, 3) := by decide +kernel
theorem dX8_takesCrane_34 : decode cX8_takesCrane 34 = .ok (.aload_n 0, 1) := by decide +kernel
theorem dX8_takesCrane_35 : decode cX8_takesCrane 35 = .ok (.getfield 25, 3) := by decide +kernel
theorem dX8_takesCrane_38 : decode cX8_takesCrane 38 = .ok (.iconst 3, 1) := by decide +kernel
theorem dX8_takesCrane_39 : decode cX8_takesCrane 39 = .ok (.iaload, 1) := by decide +kernel
theorem dX8_takesCrane_40 : decode cX8_takesCrane 40 = .ok (.bipush 100, 2) := by decide +kernel
theorem dX8_takesCrane_42 : decode cX8_takesCrane 42 = .ok (.if_icmp .ge 7, 3) := by decide +kernel
theorem dX8_takesCrane_45 : decode cX8_takesCrane 45 = .ok (.iconst 1, 1) := by decide +kernel
theorem dX8_takesCrane_46 : decode cX8_takesCrane 46 = .ok (.goto 4, 3) := by decide +kernel
theorem dX8_takesCrane_49 : decode cX8_takesCrane 49 = .ok (.iconst 0, 1) := by decide +kernel
theorem dX8_takesCrane_50 : decode cX8_takesCrane 50 = .ok (.istore_n 1, 1) := by decide +kernel
theorem dX8_takesCrane_51 : decode cX8_takesCrane 51 = .ok (.iload_n 1, 1) := by decide +kernel
theorem dX8_takesCrane_52 : decode cX8_takesCrane 52 = .ok (.ifCond .eq 31, 3) := by decide +kernel
theorem dX8_takesCrane_55 : decode cX8_takesCrane 55 = .ok (.aload_n 0, 1) := by decide +kernel
theorem dX8_takesCrane_56 : decode cX8_takesCrane 56 = .ok (.aload_n 0, 1) := by decide +kernel
theorem dX8_takesCrane_57 : decode cX8_takesCrane 57 = .ok (.getfield 25, 3) := by decide +kernel
theorem dX8_takesCrane_60 : decode cX8_takesCrane 60 = .ok (.iconst 0, 1) := by decide +kernel
theorem dX8_takesCrane_61 : decode cX8_takesCrane 61 = .ok (.iaload, 1) := by decide +kernel
theorem dX8_takesCrane_62 : decode cX8_takesCrane 62 = .ok (.aload_n 0, 1) := by decide +kernel
theorem dX8_takesCrane_63 : decode cX8_takesCrane 63 = .ok (.getfield 25, 3) := by decide +kernel
theorem dX8_takesCrane_66 : decode cX8_takesCrane 66 = .ok (.iconst 1, 1) := by decide +kernel
theorem dX8_takesCrane_67 : decode cX8_takesCrane 67 = .ok (.iaload, 1) := by decide +kernel
theorem dX8_takesCrane_68 : decode cX8_takesCrane 68 = .ok (.aload_n 0, 1) := by decide +kernel
theorem dX8_takesCrane_69 : decode cX8_takesCrane 69 = .ok (.getfield 25, 3) := by decide +kernel
theorem dX8_takesCrane_72 : decode cX8_takesCrane 72 = .ok (.iconst 2, 1) := by decide +kernel
theorem dX8_takesCrane_73 : decode cX8_takesCrane 73 = .ok (.iaload, 1) := by decide +kernel
theorem dX8_takesCrane_74 : decode cX8_takesCrane 74 = .ok (.aload_n 0, 1) := by decide +kernel
theorem dX8_takesCrane_75 : decode cX8_takesCrane 75 = .ok (.getfield 25, 3) := by decide +kernel
theorem dX8_takesCrane_78 : decode cX8_takesCrane 78 = .ok (.iconst 3, 1) := by decide +kernel
theorem dX8_takesCrane_79 : decode cX8_takesCrane 79 = .ok (.iaload, 1) := by decide +kernel
theorem dX8_takesCrane_80 : decode cX8_takesCrane 80 = .ok (.invokevirtual 34, 3) := by decide +kernel
theorem dX8_takesCrane_83 : decode cX8_takesCrane 83 = .ok (.iload_n 1, 1) := by decide +kernel
theorem dX8_takesCrane_84 : decode cX8_takesCrane 84 = .ok (.ireturn, 1) := by decide +kernel
set_option maxRecDepth 20000 in
theorem ggX8_takesMost_X8_takesNumbers : GoodIn wsX8_takesMost wsX8_takesNumbers := goodIn_r _ [7, 8, 9, 10, 11, 6, 12, 1, 13, 14, 15, 16, 17, 18, 19, 20, 21, 22, 23, 24, 25, 26, 27, 28, 29, 30] (by decide +kernel) (by decide +kernel)
set_option maxRecDepth 20000 in
theorem gX8_takesMost_X8_takesNumbers : GoodIn wsX8_takesMost (wsV RX8 60 RX8 yX8_takesNumbers wsX8_takesNumbers) := goodIn_app (goodIn_of _ (by decide +kernel)) ggX8_takesMost_X8_takesNumbers
set_option maxRecDepth 20000 in
theorem ggX8_takesMost_X8_in : GoodIn wsX8_takesMost wsX8_in := goodIn_r _ [21] (by decide +kernel) (by decide +kernel)
set_option maxRecDepth 20000 in
theorem gX8_takesMost_X8_in : GoodIn wsX8_takesMost (va_wsS RX8 48 yX8_in wsX8_in) := goodIn_app (goodIn_of _ (by decide +kernel)) ggX8_takesMost_X8_in
theorem dX8_takesMost_0 : decode cX8_takesMost 0 = .ok (.aload_n 0, 1) := by decide +kernel
theorem dX8_takesMost_1 : decode cX8_takesMost 1 = .ok (.iconst 3, 1) := by decide +kernel
theorem dX8_takesMost_2 : decode cX8_takesMost 2 = .ok (.invokevirtual 60, 3) := by decide +kernel
theorem dX8_takesMost_5 : decode cX8_takesMost 5 = .ok (.ifCond .eq 48, 3) := by decide +kernel
theorem dX8_takesMost_8 : decode cX8_takesMost 8 = .ok (.aload_n 0, 1) := by decide +kernel
theorem dX8_takesMost_9 : decode cX8_takesMost 9 = .ok (.getfield 25, 3) := by decide +kernel
theorem dX8_takesMost_12 : decode cX8_takesMost 12 = .ok (.iconst 0, 1) := by decide +kernel
theorem dX8_takesMost_13 : decode cX8_takesMost 13 = .ok (.iaload, 1) := by decide +kernel
theorem dX8_takesMost_14 : decode cX8_takesMost 14 = .ok (.iconst 1, 1) := by decide +kernel
theorem dX8_takesMost_15 : decode cX8_takesMost 15 = .ok (.bipush 9, 2) := by decide +kernel
theorem dX8_takesMost_17 : decode cX8_takesMost 17 = .ok (.invokestatic 48, 3) := by decide +kernel
theorem dX8_takesMost_20 : decode cX8_takesMost 20 = .ok (.ifCond .eq 33, 3) := by decide +kernel
theorem dX8_takesMost_23 : decode cX8_takesMost 23 = .ok (.aload_n 0, 1) := by decide +kernel
theorem dX8_takesMost_24 : decode cX8_takesMost 24 = .ok (.getfield 25, 3) := by decide +kernel
theorem dX8_takesMost_27 : decode cX8_takesMost 27 = .ok (.iconst 1, 1) := by decide +kernel
theorem dX8_takesMost_28 : decode cX8_takesMost 28 = .ok (.iaload, 1) := by decide +kernel
theorem dX8_takesMost_29 : decode cX8_takesMost 29 = .ok (.iconst 1, 1) := by decide +kernel
theorem dX8_takesMost_30 : decode cX8_takesMost 30 = .ok (.bipush 40, 2) := by decide +kernel
theorem dX8_takesMost_32 : decode cX8_takesMost 32 = .ok (.invokestatic 48, 3) := by decide +kernel
theorem dX8_takesMost_35 : decode cX8_takesMost 35 = .ok (.ifCond .eq 18, 3) := by decide +kernel
theorem dX8_takesMost_38 : decode cX8_takesMost 38 = .ok (.aload_n 0, 1) := by decide +kernel
theorem dX8_takesMost_39 : decode cX8_takesMost 39 = .ok (.getfield 25, 3) := by decide +kernel
theorem dX8_takesMost_42 : decode cX8_takesMost 42 = .ok (.iconst 2, 1) := by decide +kernel
theorem dX8_takesMost_43 : decode cX8_takesMost 43 = .ok (.iaload, 1) := by decide +kernel
theorem dX8_takesMost_44 : decode cX8_takesMost 44 = .ok (.bipush 40, 2) := by decide +kernel
theorem dX8_takesMost_46 : decode cX8_takesMost 46 = .ok (.if_icmp .gt 7, 3) := by decide +kernel
theorem dX8_takesMost_49 : decode cX8_takesMost 49 = .ok (.iconst 1, 1) := by decide +kernel
theorem dX8_takesMost_50 : decode cX8_takesMost 50 = .ok (.goto 4, 3) := by decide +kernel
theorem dX8_takesMost_53 : decode cX8_takesMost 53 = .ok (.iconst 0, 1) := by decide +kernel
theorem dX8_takesMost_54 : decode cX8_takesMost 54 = .ok (.istore_n 1, 1) := by decide +kernel
theorem dX8_takesMost_55 : decode cX8_takesMost 55 = .ok (.iconst 0, 1) := by decide +kernel
theorem dX8_takesMost_56 : decode cX8_takesMost 56 = .ok (.istore_n 2, 1) := by decide +kernel
theorem dX8_takesMost_57 : decode cX8_takesMost 57 = .ok (.iload_n 2, 1) := by decide +kernel
theorem dX8_takesMost_58 : decode cX8_takesMost 58 = .ok (.iconst 3, 1) := by decide +kernel
theorem dX8_takesMost_59 : decode cX8_takesMost 59 = .ok (.if_icmp .ge 27, 3) := by decide +kernel
theorem dX8_takesMost_62 : decode cX8_takesMost 62 = .ok (.iload_n 1, 1) := by decide +kernel
theorem dX8_takesMost_63 : decode cX8_takesMost 63 = .ok (.ifCond .eq 23, 3) := by decide +kernel
theorem dX8_takesMost_66 : decode cX8_takesMost 66 = .ok (.aload_n 0, 1) := by decide +kernel
theorem dX8_takesMost_67 : decode cX8_takesMost 67 = .ok (.getfield 13, 3) := by decide +kernel
theorem dX8_takesMost_70 : decode cX8_takesMost 70 = .ok (.iconst 2, 1) := by decide +kernel
theorem dX8_takesMost_71 : decode cX8_takesMost 71 = .ok (.iload_n 2, 1) := by decide +kernel
theorem dX8_takesMost_72 : decode cX8_takesMost 72 = .ok (.iadd, 1) := by decide +kernel
theorem dX8_takesMost_73 : decode cX8_takesMost 73 = .ok (.aload_n 0, 1) := by decide +kernel
theorem dX8_takesMost_74 : decode cX8_takesMost 74 = .ok (.getfield 25, 3) := by decide +kernel
theorem dX8_takesMost_77 : decode cX8_takesMost 77 = .ok (.iload_n 2, 1) := by decide +kernel
theorem dX8_takesMost_78 : decode cX8_takesMost 78 = .ok (.iaload, 1) := by decide +kernel
theorem dX8_takesMost_79 : decode cX8_takesMost 79 = .ok (.iastore, 1) := by decide +kernel
theorem dX8_takesMost_80 : decode cX8_takesMost 80 = .ok (.iinc 2 1, 3) := by decide +kernel
theorem dX8_takesMost_83 : decode cX8_takesMost 83 = .ok (.goto (-26), 3) := by decide +kernel
theorem dX8_takesMost_86 : decode cX8_takesMost 86 = .ok (.iload_n 1, 1) := by decide +kernel
theorem dX8_takesMost_87 : decode cX8_takesMost 87 = .ok (.ireturn, 1) := by decide +kernel
set_option maxRecDepth 20000 in
theorem ggX8_takesItem_X8_takesOne : GoodIn wsX8_takesItem wsX8_takesOne := goodIn_r _ [7, 8, 9, 10, 11, 12, 6, 13, 2, 14, 15, 16, 17, 1, 18, 19, 20, 21, 22, 23, 24, 25, 38, 39, 40, 41, 42, 43, 44, 45, 46] (by decide +kernel) (by decide +kernel)
set_option maxRecDepth 20000 in
theorem gX8_takesItem_X8_takesOne : GoodIn wsX8_takesItem (wsV RX8 63 RX8 yX8_takesOne wsX8_takesOne) := goodIn_app (goodIn_of _ (by decide +kernel)) ggX8_takesItem_X8_takesOne
set_option maxRecDepth 20000 in
theorem ggX8_takesItem_X8_takesCrane : GoodIn wsX8_takesItem wsX8_takesCrane := goodIn_r _ [29, 8, 10, 11, 12, 6, 13, 2, 14, 15, 16, 17, 1, 18, 19, 20, 21, 22, 23, 24, 25, 30, 31, 32, 33, 9, 38, 39, 40, 41, 42, 43, 44, 45, 46] (by decide +kernel) (by decide +kernel)
set_option maxRecDepth 20000 in
theorem gX8_takesItem_X8_takesCrane : GoodIn wsX8_takesItem (wsV RX8 66 RX8 yX8_takesCrane wsX8_takesCrane) := goodIn_app (goodIn_of _ (by decide +kernel)) ggX8_takesItem_X8_takesCrane
set_option maxRecDepth 20000 in
theorem ggX8_takesItem_X8_takesMost : GoodIn wsX8_takesItem wsX8_takesMost := goodIn_r _ [37, 8, 9, 10, 11, 12, 6, 13, 2, 14, 15, 16, 17, 1, 18, 19, 20, 21, 22, 23, 24, 25, 38, 39, 40, 41, 42, 43, 44, 45, 46] (by decide +kernel) (by decide +kernel)
set_option maxRecDepth 20000 in
theorem gX8_takesItem_X8_takesMost : GoodIn wsX8_takesItem (wsV RX8 70 RX8 yX8_takesMost wsX8_takesMost) := goodIn_app (goodIn_of _ (by decide +kernel)) ggX8_takesItem_X8_takesMost
theorem dX8_takesItem_0 : decode cX8_takesItem 0 = .ok (.aload_n 0, 1) := by decide +kernel
theorem dX8_takesItem_1 : decode cX8_takesItem 1 = .ok (.getfield 22, 3) := by decide +kernel
theorem dX8_takesItem_4 : decode cX8_takesItem 4 = .ok (.aload_n 0, 1) := by decide +kernel
theorem dX8_takesItem_5 : decode cX8_takesItem 5 = .ok (.getfield 42, 3) := by decide +kernel
theorem dX8_takesItem_8 : decode cX8_takesItem 8 = .ok (.iaload, 1) := by decide +kernel
theorem dX8_takesItem_9 : decode cX8_takesItem 9 = .ok (.istore_n 1, 1) := by decide +kernel
theorem dX8_takesItem_10 : decode cX8_takesItem 10 = .ok (.aload_n 0, 1) := by decide +kernel
theorem dX8_takesItem_11 : decode cX8_takesItem 11 = .ok (.dup, 1) := by decide +kernel
theorem dX8_takesItem_12 : decode cX8_takesItem 12 = .ok (.getfield 42, 3) := by decide +kernel
theorem dX8_takesItem_15 : decode cX8_takesItem 15 = .ok (.iconst 1, 1) := by decide +kernel
theorem dX8_takesItem_16 : decode cX8_takesItem 16 = .ok (.iadd, 1) := by decide +kernel
theorem dX8_takesItem_17 : decode cX8_takesItem 17 = .ok (.putfield 42, 3) := by decide +kernel
theorem dX8_takesItem_20 : decode cX8_takesItem 20 = .ok (.iload_n 1, 1) := by decide +kernel
theorem dX8_takesItem_21 : decode cX8_takesItem 21 = .ok (.tableswitch 83 99 107 #[73, 83, 51, 83, 63, 83, 83, 83, 78], 51) := by decide +kernel
theorem dX8_takesItem_72 : decode cX8_takesItem 72 = .ok (.aload_n 0, 1) := by decide +kernel
theorem dX8_takesItem_73 : decode cX8_takesItem 73 = .ok (.iconst 0, 1) := by decide +kernel
theorem dX8_takesItem_74 : decode cX8_takesItem 74 = .ok (.sipush 200, 3) := by decide +kernel
theorem dX8_takesItem_77 : decode cX8_takesItem 77 = .ok (.sipush 999, 3) := by decide +kernel
theorem dX8_takesItem_80 : decode cX8_takesItem 80 = .ok (.invokevirtual 63, 3) := by decide +kernel
theorem dX8_takesItem_83 : decode cX8_takesItem 83 = .ok (.ireturn, 1) := by decide +kernel
theorem dX8_takesItem_84 : decode cX8_takesItem 84 = .ok (.aload_n 0, 1) := by decide +kernel
theorem dX8_takesItem_85 : decode cX8_takesItem 85 = .ok (.iconst 1, 1) := by decide +kernel
theorem dX8_takesItem_86 : decode cX8_takesItem 86 = .ok (.bipush 10, 2) := by decide +kernel
theorem dX8_takesItem_88 : decode cX8_takesItem 88 = .ok (.bipush 99, 2) := by decide +kernel
theorem dX8_takesItem_90 : decode cX8_takesItem 90 = .ok (.invokevirtual 63, 3) := by decide +kernel
theorem dX8_takesItem_93 : decode cX8_takesItem 93 = .ok (.ireturn, 1) := by decide +kernel
theorem dX8_takesItem_94 : decode cX8_takesItem 94 = .ok (.aload_n 0, 1) := by decide +kernel
theorem dX8_takesItem_95 : decode cX8_takesItem 95 = .ok (.invokevirtual 66, 3) := by decide +kernel
theorem dX8_takesItem_98 : decode cX8_takesItem 98 = .ok (.ireturn, 1) := by decide +kernel
theorem dX8_takesItem_99 : decode cX8_takesItem 99 = .ok (.aload_n 0, 1) := by decide +kernel
theorem dX8_takesItem_100 : decode cX8_takesItem 100 = .ok (.invokevirtual 70, 3) := by decide +kernel
theorem dX8_takesItem_103 : decode cX8_takesItem 103 = .ok (.ireturn, 1) := by decide +kernel
theorem dX8_takesItem_104 : decode cX8_takesItem 104 = .ok (.iconst 0, 1) := by decide +kernel
theorem dX8_takesItem_105 : decode cX8_takesItem 105 = .ok (.ireturn, 1) := by decide +kernel
set_option maxRecDepth 20000 in
theorem ggX8_reads_X8_begins : GoodIn wsX8_reads wsX8_begins := goodIn_r _ [7, 8, 9, 10, 11, 6, 12, 46, 47, 48, 49, 50, 51, 52, 53, 54] (by decide +kernel) (by decide +kernel)
set_option maxRecDepth 20000 in
theorem gX8_reads_X8_begins : GoodIn wsX8_reads (wsV RX8 28 RX8 yX8_begins wsX8_begins) := goodIn_app (goodIn_of _ (by decide +kernel)) ggX8_reads_X8_begins
set_option maxRecDepth 20000 in
theorem ggX8_reads_X8_takesItem : GoodIn wsX8_reads wsX8_takesItem := goodIn_r _ [16, 17, 1, 18, 19, 20, 6, 21, 22, 8, 23, 24, 25, 26, 27, 28, 29, 30, 31, 32, 33, 34, 2, 35, 36, 37, 38, 39, 40, 41, 9, 10, 11, 12, 42, 43, 44, 45, 46, 47, 48, 49, 50, 51, 52, 53, 54] (by decide +kernel) (by decide +kernel)
set_option maxRecDepth 20000 in
theorem gX8_reads_X8_takesItem : GoodIn wsX8_reads (wsV RX8 73 RX8 yX8_takesItem wsX8_takesItem) := goodIn_app (goodIn_of _ (by decide +kernel)) ggX8_reads_X8_takesItem
theorem dX8_reads_0 : decode cX8_reads 0 = .ok (.aload_n 0, 1) := by decide +kernel
theorem dX8_reads_1 : decode cX8_reads 1 = .ok (.invokevirtual 28, 3) := by decide +kernel
theorem dX8_reads_4 : decode cX8_reads 4 = .ok (.aload_n 0, 1) := by decide +kernel
theorem dX8_reads_5 : decode cX8_reads 5 = .ok (.iconst 0, 1) := by decide +kernel
theorem dX8_reads_6 : decode cX8_reads 6 = .ok (.putfield 42, 3) := by decide +kernel
theorem dX8_reads_9 : decode cX8_reads 9 = .ok (.aload_n 0, 1) := by decide +kernel
theorem dX8_reads_10 : decode cX8_reads 10 = .ok (.getfield 42, 3) := by decide +kernel
theorem dX8_reads_13 : decode cX8_reads 13 = .ok (.aload_n 0, 1) := by decide +kernel
theorem dX8_reads_14 : decode cX8_reads 14 = .ok (.getfield 45, 3) := by decide +kernel
theorem dX8_reads_17 : decode cX8_reads 17 = .ok (.if_icmp .ge 20, 3) := by decide +kernel
theorem dX8_reads_20 : decode cX8_reads 20 = .ok (.aload_n 0, 1) := by decide +kernel
theorem dX8_reads_21 : decode cX8_reads 21 = .ok (.getfield 42, 3) := by decide +kernel
theorem dX8_reads_24 : decode cX8_reads 24 = .ok (.istore_n 1, 1) := by decide +kernel
theorem dX8_reads_25 : decode cX8_reads 25 = .ok (.aload_n 0, 1) := by decide +kernel
theorem dX8_reads_26 : decode cX8_reads 26 = .ok (.invokevirtual 73, 3) := by decide +kernel
theorem dX8_reads_29 : decode cX8_reads 29 = .ok (.ifCond .ne 5, 3) := by decide +kernel
theorem dX8_reads_32 : decode cX8_reads 32 = .ok (.iload_n 1, 1) := by decide +kernel
theorem dX8_reads_33 : decode cX8_reads 33 = .ok (.ireturn, 1) := by decide +kernel
theorem dX8_reads_34 : decode cX8_reads 34 = .ok (.goto (-25), 3) := by decide +kernel
theorem dX8_reads_37 : decode cX8_reads 37 = .ok (.bipush (-4), 2) := by decide +kernel
theorem dX8_reads_39 : decode cX8_reads 39 = .ok (.ireturn, 1) := by decide +kernel
set_option maxRecDepth 20000 in
theorem ggX8_write_X8_in : GoodIn wsX8_write wsX8_in := goodIn_r _ [6] (by decide +kernel) (by decide +kernel)
set_option maxRecDepth 20000 in
theorem gX8_write_X8_in : GoodIn wsX8_write (va_wsS RX8 48 yX8_in wsX8_in) := goodIn_app (goodIn_of _ (by decide +kernel)) ggX8_write_X8_in
theorem dX8_write_0 : decode cX8_write 0 = .ok (.iload_n 1, 1) := by decide +kernel
theorem dX8_write_1 : decode cX8_write 1 = .ok (.bipush 32, 2) := by decide +kernel
theorem dX8_write_3 : decode cX8_write 3 = .ok (.bipush 126, 2) := by decide +kernel
theorem dX8_write_5 : decode cX8_write 5 = .ok (.invokestatic 48, 3) := by decide +kernel
theorem dX8_write_8 : decode cX8_write 8 = .ok (.ifCond .ne 5, 3) := by decide +kernel
theorem dX8_write_11 : decode cX8_write 11 = .ok (.iconst (-1), 1) := by decide +kernel
theorem dX8_write_12 : decode cX8_write 12 = .ok (.ireturn, 1) := by decide +kernel
theorem dX8_write_13 : decode cX8_write 13 = .ok (.aload_n 0, 1) := by decide +kernel
theorem dX8_write_14 : decode cX8_write 14 = .ok (.getfield 45, 3) := by decide +kernel
theorem dX8_write_17 : decode cX8_write 17 = .ok (.sipush 200, 3) := by decide +kernel
theorem dX8_write_20 : decode cX8_write 20 = .ok (.if_icmp .ne 6, 3) := by decide +kernel
theorem dX8_write_23 : decode cX8_write 23 = .ok (.bipush (-3), 2) := by decide +kernel
theorem dX8_write_25 : decode cX8_write 25 = .ok (.ireturn, 1) := by decide +kernel
theorem dX8_write_26 : decode cX8_write 26 = .ok (.aload_n 0, 1) := by decide +kernel
theorem dX8_write_27 : decode cX8_write 27 = .ok (.getfield 22, 3) := by decide +kernel
theorem dX8_write_30 : decode cX8_write 30 = .ok (.aload_n 0, 1) := by decide +kernel
theorem dX8_write_31 : decode cX8_write 31 = .ok (.getfield 45, 3) := by decide +kernel
theorem dX8_write_34 : decode cX8_write 34 = .ok (.iload_n 1, 1) := by decide +kernel
theorem dX8_write_35 : decode cX8_write 35 = .ok (.iastore, 1) := by decide +kernel
theorem dX8_write_36 : decode cX8_write 36 = .ok (.aload_n 0, 1) := by decide +kernel
theorem dX8_write_37 : decode cX8_write 37 = .ok (.dup, 1) := by decide +kernel
theorem dX8_write_38 : decode cX8_write 38 = .ok (.getfield 45, 3) := by decide +kernel
theorem dX8_write_41 : decode cX8_write 41 = .ok (.iconst 1, 1) := by decide +kernel
theorem dX8_write_42 : decode cX8_write 42 = .ok (.iadd, 1) := by decide +kernel
theorem dX8_write_43 : decode cX8_write 43 = .ok (.putfield 45, 3) := by decide +kernel
theorem dX8_write_46 : decode cX8_write 46 = .ok (.aload_n 0, 1) := by decide +kernel
theorem dX8_write_47 : decode cX8_write 47 = .ok (.getfield 45, 3) := by decide +kernel
theorem dX8_write_50 : decode cX8_write 50 = .ok (.ireturn, 1) := by decide +kernel
theorem dX8_wipe_0 : decode cX8_wipe 0 = .ok (.aload_n 0, 1) := by decide +kernel
theorem dX8_wipe_1 : decode cX8_wipe 1 = .ok (.getfield 45, 3) := by decide +kernel
theorem dX8_wipe_4 : decode cX8_wipe 4 = .ok (.istore_n 1, 1) := by decide +kernel
theorem dX8_wipe_5 : decode cX8_wipe 5 = .ok (.aload_n 0, 1) := by decide +kernel
theorem dX8_wipe_6 : decode cX8_wipe 6 = .ok (.iconst 0, 1) := by decide +kernel
theorem dX8_wipe_7 : decode cX8_wipe 7 = .ok (.putfield 45, 3) := by decide +kernel
theorem dX8_wipe_10 : decode cX8_wipe 10 = .ok (.iload_n 1, 1) := by decide +kernel
theorem dX8_wipe_11 : decode cX8_wipe 11 = .ok (.ireturn, 1) := by decide +kernel
set_option maxRecDepth 20000 in
theorem ggX8_fault_X8_reads : GoodIn wsX8_fault wsX8_reads := goodIn_r _ [5, 6, 7, 8, 9, 10, 4, 11, 12, 13, 14, 15, 16, 17, 18, 19, 20, 21, 22, 23, 24, 25, 26, 27, 28, 29, 30, 31, 32, 33, 34, 35, 36, 37, 38, 39, 40, 41, 42, 43, 44, 45, 46, 47, 48, 49, 50, 51, 52, 53, 54, 55, 56, 57, 58] (by decide +kernel) (by decide +kernel)
set_option maxRecDepth 20000 in
theorem gX8_fault_X8_reads : GoodIn wsX8_fault (wsV RX8 76 RX8 yX8_reads wsX8_reads) := goodIn_app (goodIn_of _ (by decide +kernel)) ggX8_fault_X8_reads
theorem dX8_fault_0 : decode cX8_fault 0 = .ok (.aload_n 0, 1) := by decide +kernel
theorem dX8_fault_1 : decode cX8_fault 1 = .ok (.invokevirtual 76, 3) := by decide +kernel
theorem dX8_fault_4 : decode cX8_fault 4 = .ok (.ireturn, 1) := by decide +kernel
set_option maxRecDepth 20000 in
theorem ggX8_lay_X8_reads : GoodIn wsX8_lay wsX8_reads := goodIn_r _ [7, 8, 9, 10, 11, 12, 6, 13, 1, 14, 15, 16, 17, 18, 19, 20, 21, 22, 23, 24, 25, 26, 27, 28, 29, 30, 31, 32, 33, 34, 35, 36, 37, 38, 39, 40, 41, 42, 43, 44, 45, 46, 47, 48, 49, 50, 56, 57, 58, 59, 60, 61, 62, 63, 64] (by decide +kernel) (by decide +kernel)
set_option maxRecDepth 20000 in
theorem gX8_lay_X8_reads : GoodIn wsX8_lay (wsV RX8 76 RX8 yX8_reads wsX8_reads) := goodIn_app (goodIn_of _ (by decide +kernel)) ggX8_lay_X8_reads
set_option maxRecDepth 20000 in
theorem ggX8_lay_X8_takes : GoodIn wsX8_lay wsX8_takes := goodIn_r _ [54, 2, 1, 55, 56, 57, 58, 59, 60, 61, 62, 63, 64] (by decide +kernel) (by decide +kernel)
set_option maxRecDepth 20000 in
theorem gX8_lay_X8_takes : GoodIn wsX8_lay (wsV RX8 31 RX8 yX8_takes wsX8_takes) := goodIn_app (goodIn_of _ (by decide +kernel)) ggX8_lay_X8_takes
theorem dX8_lay_0 : decode cX8_lay 0 = .ok (.aload_n 0, 1) := by decide +kernel
theorem dX8_lay_1 : decode cX8_lay 1 = .ok (.invokevirtual 76, 3) := by decide +kernel
theorem dX8_lay_4 : decode cX8_lay 4 = .ok (.bipush (-4), 2) := by decide +kernel
theorem dX8_lay_6 : decode cX8_lay 6 = .ok (.if_icmp .ne 7, 3) := by decide +kernel
theorem dX8_lay_9 : decode cX8_lay 9 = .ok (.iconst 1, 1) := by decide +kernel
theorem dX8_lay_10 : decode cX8_lay 10 = .ok (.goto 4, 3) := by decide +kernel
theorem dX8_lay_13 : decode cX8_lay 13 = .ok (.iconst 0, 1) := by decide +kernel
theorem dX8_lay_14 : decode cX8_lay 14 = .ok (.istore_n 1, 1) := by decide +kernel
theorem dX8_lay_15 : decode cX8_lay 15 = .ok (.aload_n 0, 1) := by decide +kernel
theorem dX8_lay_16 : decode cX8_lay 16 = .ok (.getfield 13, 3) := by decide +kernel
theorem dX8_lay_19 : decode cX8_lay 19 = .ok (.bipush 7, 2) := by decide +kernel
theorem dX8_lay_21 : decode cX8_lay 21 = .ok (.iaload, 1) := by decide +kernel
theorem dX8_lay_22 : decode cX8_lay 22 = .ok (.istore_n 2, 1) := by decide +kernel
theorem dX8_lay_23 : decode cX8_lay 23 = .ok (.aload_n 0, 1) := by decide +kernel
theorem dX8_lay_24 : decode cX8_lay 24 = .ok (.getfield 13, 3) := by decide +kernel
theorem dX8_lay_27 : decode cX8_lay 27 = .ok (.bipush 20, 2) := by decide +kernel
theorem dX8_lay_29 : decode cX8_lay 29 = .ok (.iaload, 1) := by decide +kernel
theorem dX8_lay_30 : decode cX8_lay 30 = .ok (.istore_n 3, 1) := by decide +kernel
theorem dX8_lay_31 : decode cX8_lay 31 = .ok (.iload_n 1, 1) := by decide +kernel
theorem dX8_lay_32 : decode cX8_lay 32 = .ok (.ifCond .eq 35, 3) := by decide +kernel
theorem dX8_lay_35 : decode cX8_lay 35 = .ok (.iload_n 2, 1) := by decide +kernel
theorem dX8_lay_36 : decode cX8_lay 36 = .ok (.aload_n 0, 1) := by decide +kernel
theorem dX8_lay_37 : decode cX8_lay 37 = .ok (.getfield 13, 3) := by decide +kernel
theorem dX8_lay_40 : decode cX8_lay 40 = .ok (.iconst 0, 1) := by decide +kernel
theorem dX8_lay_41 : decode cX8_lay 41 = .ok (.iaload, 1) := by decide +kernel
theorem dX8_lay_42 : decode cX8_lay 42 = .ok (.if_icmp .gt 25, 3) := by decide +kernel
theorem dX8_lay_45 : decode cX8_lay 45 = .ok (.iload_n 3, 1) := by decide +kernel
theorem dX8_lay_46 : decode cX8_lay 46 = .ok (.aload_n 0, 1) := by decide +kernel
theorem dX8_lay_47 : decode cX8_lay 47 = .ok (.getfield 13, 3) := by decide +kernel
theorem dX8_lay_50 : decode cX8_lay 50 = .ok (.iconst 0, 1) := by decide +kernel
theorem dX8_lay_51 : decode cX8_lay 51 = .ok (.iaload, 1) := by decide +kernel
theorem dX8_lay_52 : decode cX8_lay 52 = .ok (.if_icmp .gt 15, 3) := by decide +kernel
theorem dX8_lay_55 : decode cX8_lay 55 = .ok (.iload_n 3, 1) := by decide +kernel
theorem dX8_lay_56 : decode cX8_lay 56 = .ok (.iload_n 2, 1) := by decide +kernel
theorem dX8_lay_57 : decode cX8_lay 57 = .ok (.isub, 1) := by decide +kernel
theorem dX8_lay_58 : decode cX8_lay 58 = .ok (.aload_n 0, 1) := by decide +kernel
theorem dX8_lay_59 : decode cX8_lay 59 = .ok (.getfield 13, 3) := by decide +kernel
theorem dX8_lay_62 : decode cX8_lay 62 = .ok (.iconst 1, 1) := by decide +kernel
theorem dX8_lay_63 : decode cX8_lay 63 = .ok (.iaload, 1) := by decide +kernel
theorem dX8_lay_64 : decode cX8_lay 64 = .ok (.if_icmp .ge 6, 3) := by decide +kernel
theorem dX8_lay_67 : decode cX8_lay 67 = .ok (.bipush (-2), 2) := by decide +kernel
theorem dX8_lay_69 : decode cX8_lay 69 = .ok (.ireturn, 1) := by decide +kernel
theorem dX8_lay_70 : decode cX8_lay 70 = .ok (.aload_n 0, 1) := by decide +kernel
theorem dX8_lay_71 : decode cX8_lay 71 = .ok (.invokevirtual 31, 3) := by decide +kernel
theorem dX8_lay_74 : decode cX8_lay 74 = .ok (.aload_n 0, 1) := by decide +kernel
theorem dX8_lay_75 : decode cX8_lay 75 = .ok (.getfield 7, 3) := by decide +kernel
theorem dX8_lay_78 : decode cX8_lay 78 = .ok (.iconst 0, 1) := by decide +kernel
theorem dX8_lay_79 : decode cX8_lay 79 = .ok (.iaload, 1) := by decide +kernel
theorem dX8_lay_80 : decode cX8_lay 80 = .ok (.ireturn, 1) := by decide +kernel
theorem dX8_keeps_0 : decode cX8_keeps 0 = .ok (.aload_n 0, 1) := by decide +kernel
theorem dX8_keeps_1 : decode cX8_keeps 1 = .ok (.getfield 38, 3) := by decide +kernel
theorem dX8_keeps_4 : decode cX8_keeps 4 = .ok (.iconst 4, 1) := by decide +kernel
theorem dX8_keeps_5 : decode cX8_keeps 5 = .ok (.if_icmp .ne 44, 3) := by decide +kernel
theorem dX8_keeps_8 : decode cX8_keeps 8 = .ok (.iconst 0, 1) := by decide +kernel
theorem dX8_keeps_9 : decode cX8_keeps 9 = .ok (.istore_n 1, 1) := by decide +kernel
theorem dX8_keeps_10 : decode cX8_keeps 10 = .ok (.iload_n 1, 1) := by decide +kernel
theorem dX8_keeps_11 : decode cX8_keeps 11 = .ok (.sipush 1545, 3) := by decide +kernel
theorem dX8_keeps_14 : decode cX8_keeps 14 = .ok (.if_icmp .ge 25, 3) := by decide +kernel
theorem dX8_keeps_17 : decode cX8_keeps 17 = .ok (.aload_n 0, 1) := by decide +kernel
theorem dX8_keeps_18 : decode cX8_keeps 18 = .ok (.getfield 19, 3) := by decide +kernel
theorem dX8_keeps_21 : decode cX8_keeps 21 = .ok (.iload_n 1, 1) := by decide +kernel
theorem dX8_keeps_22 : decode cX8_keeps 22 = .ok (.aload_n 0, 1) := by decide +kernel
theorem dX8_keeps_23 : decode cX8_keeps 23 = .ok (.getfield 19, 3) := by decide +kernel
theorem dX8_keeps_26 : decode cX8_keeps 26 = .ok (.iload_n 1, 1) := by decide +kernel
theorem dX8_keeps_27 : decode cX8_keeps 27 = .ok (.sipush 515, 3) := by decide +kernel
theorem dX8_keeps_30 : decode cX8_keeps 30 = .ok (.iadd, 1) := by decide +kernel
theorem dX8_keeps_31 : decode cX8_keeps 31 = .ok (.iaload, 1) := by decide +kernel
theorem dX8_keeps_32 : decode cX8_keeps 32 = .ok (.iastore, 1) := by decide +kernel
theorem dX8_keeps_33 : decode cX8_keeps 33 = .ok (.iinc 1 1, 3) := by decide +kernel
theorem dX8_keeps_36 : decode cX8_keeps 36 = .ok (.goto (-26), 3) := by decide +kernel
theorem dX8_keeps_39 : decode cX8_keeps 39 = .ok (.aload_n 0, 1) := by decide +kernel
theorem dX8_keeps_40 : decode cX8_keeps 40 = .ok (.dup, 1) := by decide +kernel
theorem dX8_keeps_41 : decode cX8_keeps 41 = .ok (.getfield 38, 3) := by decide +kernel
theorem dX8_keeps_44 : decode cX8_keeps 44 = .ok (.iconst 1, 1) := by decide +kernel
theorem dX8_keeps_45 : decode cX8_keeps 45 = .ok (.isub, 1) := by decide +kernel
theorem dX8_keeps_46 : decode cX8_keeps 46 = .ok (.putfield 38, 3) := by decide +kernel
theorem dX8_keeps_49 : decode cX8_keeps 49 = .ok (.iconst 0, 1) := by decide +kernel
theorem dX8_keeps_50 : decode cX8_keeps 50 = .ok (.istore_n 1, 1) := by decide +kernel
theorem dX8_keeps_51 : decode cX8_keeps 51 = .ok (.iload_n 1, 1) := by decide +kernel
theorem dX8_keeps_52 : decode cX8_keeps 52 = .ok (.sipush 515, 3) := by decide +kernel
theorem dX8_keeps_55 : decode cX8_keeps 55 = .ok (.if_icmp .ge 30, 3) := by decide +kernel
theorem dX8_keeps_58 : decode cX8_keeps 58 = .ok (.aload_n 0, 1) := by decide +kernel
theorem dX8_keeps_59 : decode cX8_keeps 59 = .ok (.getfield 19, 3) := by decide +kernel
theorem dX8_keeps_62 : decode cX8_keeps 62 = .ok (.sipush 515, 3) := by decide +kernel
theorem dX8_keeps_65 : decode cX8_keeps 65 = .ok (.aload_n 0, 1) := by decide +kernel
theorem dX8_keeps_66 : decode cX8_keeps 66 = .ok (.getfield 38, 3) := by decide +kernel
theorem dX8_keeps_69 : decode cX8_keeps 69 = .ok (.imul, 1) := by decide +kernel
theorem dX8_keeps_70 : decode cX8_keeps 70 = .ok (.iload_n 1, 1) := by decide +kernel
theorem dX8_keeps_71 : decode cX8_keeps 71 = .ok (.iadd, 1) := by decide +kernel
theorem dX8_keeps_72 : decode cX8_keeps 72 = .ok (.aload_n 0, 1) := by decide +kernel
theorem dX8_keeps_73 : decode cX8_keeps 73 = .ok (.getfield 7, 3) := by decide +kernel
theorem dX8_keeps_76 : decode cX8_keeps 76 = .ok (.iload_n 1, 1) := by decide +kernel
theorem dX8_keeps_77 : decode cX8_keeps 77 = .ok (.iaload, 1) := by decide +kernel
theorem dX8_keeps_78 : decode cX8_keeps 78 = .ok (.iastore, 1) := by decide +kernel
theorem dX8_keeps_79 : decode cX8_keeps 79 = .ok (.iinc 1 1, 3) := by decide +kernel
theorem dX8_keeps_82 : decode cX8_keeps 82 = .ok (.goto (-31), 3) := by decide +kernel
theorem dX8_keeps_85 : decode cX8_keeps 85 = .ok (.aload_n 0, 1) := by decide +kernel
theorem dX8_keeps_86 : decode cX8_keeps 86 = .ok (.dup, 1) := by decide +kernel
theorem dX8_keeps_87 : decode cX8_keeps 87 = .ok (.getfield 38, 3) := by decide +kernel
theorem dX8_keeps_90 : decode cX8_keeps 90 = .ok (.iconst 1, 1) := by decide +kernel
theorem dX8_keeps_91 : decode cX8_keeps 91 = .ok (.iadd, 1) := by decide +kernel
theorem dX8_keeps_92 : decode cX8_keeps 92 = .ok (.putfield 38, 3) := by decide +kernel
theorem dX8_keeps_95 : decode cX8_keeps 95 = .ok (.return_, 1) := by decide +kernel
theorem dX8_undo_0 : decode cX8_undo 0 = .ok (.aload_n 0, 1) := by decide +kernel
theorem dX8_undo_1 : decode cX8_undo 1 = .ok (.getfield 38, 3) := by decide +kernel
theorem dX8_undo_4 : decode cX8_undo 4 = .ok (.ifCond .ne 6, 3) := by decide +kernel
theorem dX8_undo_7 : decode cX8_undo 7 = .ok (.bipush (-2), 2) := by decide +kernel
theorem dX8_undo_9 : decode cX8_undo 9 = .ok (.ireturn, 1) := by decide +kernel
theorem dX8_undo_10 : decode cX8_undo 10 = .ok (.aload_n 0, 1) := by decide +kernel
theorem dX8_undo_11 : decode cX8_undo 11 = .ok (.dup, 1) := by decide +kernel
theorem dX8_undo_12 : decode cX8_undo 12 = .ok (.getfield 38, 3) := by decide +kernel
theorem dX8_undo_15 : decode cX8_undo 15 = .ok (.iconst 1, 1) := by decide +kernel
theorem dX8_undo_16 : decode cX8_undo 16 = .ok (.isub, 1) := by decide +kernel
theorem dX8_undo_17 : decode cX8_undo 17 = .ok (.putfield 38, 3) := by decide +kernel
theorem dX8_undo_20 : decode cX8_undo 20 = .ok (.iconst 0, 1) := by decide +kernel
theorem dX8_undo_21 : decode cX8_undo 21 = .ok (.istore_n 1, 1) := by decide +kernel
theorem dX8_undo_22 : decode cX8_undo 22 = .ok (.iload_n 1, 1) := by decide +kernel
theorem dX8_undo_23 : decode cX8_undo 23 = .ok (.sipush 515, 3) := by decide +kernel
theorem dX8_undo_26 : decode cX8_undo 26 = .ok (.if_icmp .ge 30, 3) := by decide +kernel
theorem dX8_undo_29 : decode cX8_undo 29 = .ok (.aload_n 0, 1) := by decide +kernel
theorem dX8_undo_30 : decode cX8_undo 30 = .ok (.getfield 7, 3) := by decide +kernel
theorem dX8_undo_33 : decode cX8_undo 33 = .ok (.iload_n 1, 1) := by decide +kernel
theorem dX8_undo_34 : decode cX8_undo 34 = .ok (.aload_n 0, 1) := by decide +kernel
theorem dX8_undo_35 : decode cX8_undo 35 = .ok (.getfield 19, 3) := by decide +kernel
theorem dX8_undo_38 : decode cX8_undo 38 = .ok (.sipush 515, 3) := by decide +kernel
theorem dX8_undo_41 : decode cX8_undo 41 = .ok (.aload_n 0, 1) := by decide +kernel
theorem dX8_undo_42 : decode cX8_undo 42 = .ok (.getfield 38, 3) := by decide +kernel
theorem dX8_undo_45 : decode cX8_undo 45 = .ok (.imul, 1) := by decide +kernel
theorem dX8_undo_46 : decode cX8_undo 46 = .ok (.iload_n 1, 1) := by decide +kernel
theorem dX8_undo_47 : decode cX8_undo 47 = .ok (.iadd, 1) := by decide +kernel
theorem dX8_undo_48 : decode cX8_undo 48 = .ok (.iaload, 1) := by decide +kernel
theorem dX8_undo_49 : decode cX8_undo 49 = .ok (.iastore, 1) := by decide +kernel
theorem dX8_undo_50 : decode cX8_undo 50 = .ok (.iinc 1 1, 3) := by decide +kernel
theorem dX8_undo_53 : decode cX8_undo 53 = .ok (.goto (-31), 3) := by decide +kernel
theorem dX8_undo_56 : decode cX8_undo 56 = .ok (.aload_n 0, 1) := by decide +kernel
theorem dX8_undo_57 : decode cX8_undo 57 = .ok (.getfield 38, 3) := by decide +kernel
theorem dX8_undo_60 : decode cX8_undo 60 = .ok (.ireturn, 1) := by decide +kernel
theorem dX8_laysAside_0 : decode cX8_laysAside 0 = .ok (.iconst 0, 1) := by decide +kernel
theorem dX8_laysAside_1 : decode cX8_laysAside 1 = .ok (.istore_n 1, 1) := by decide +kernel
theorem dX8_laysAside_2 : decode cX8_laysAside 2 = .ok (.iload_n 1, 1) := by decide +kernel
theorem dX8_laysAside_3 : decode cX8_laysAside 3 = .ok (.bipush 33, 2) := by decide +kernel
theorem dX8_laysAside_5 : decode cX8_laysAside 5 = .ok (.if_icmp .ge 21, 3) := by decide +kernel
theorem dX8_laysAside_8 : decode cX8_laysAside 8 = .ok (.aload_n 0, 1) := by decide +kernel
theorem dX8_laysAside_9 : decode cX8_laysAside 9 = .ok (.getfield 16, 3) := by decide +kernel
theorem dX8_laysAside_12 : decode cX8_laysAside 12 = .ok (.iload_n 1, 1) := by decide +kernel
theorem dX8_laysAside_13 : decode cX8_laysAside 13 = .ok (.aload_n 0, 1) := by decide +kernel
theorem dX8_laysAside_14 : decode cX8_laysAside 14 = .ok (.getfield 7, 3) := by decide +kernel
theorem dX8_laysAside_17 : decode cX8_laysAside 17 = .ok (.iload_n 1, 1) := by decide +kernel
theorem dX8_laysAside_18 : decode cX8_laysAside 18 = .ok (.iaload, 1) := by decide +kernel
theorem dX8_laysAside_19 : decode cX8_laysAside 19 = .ok (.iastore, 1) := by decide +kernel
theorem dX8_laysAside_20 : decode cX8_laysAside 20 = .ok (.iinc 1 1, 3) := by decide +kernel
theorem dX8_laysAside_23 : decode cX8_laysAside 23 = .ok (.goto (-21), 3) := by decide +kernel
theorem dX8_laysAside_26 : decode cX8_laysAside 26 = .ok (.return_, 1) := by decide +kernel
theorem dX8_comesBack_0 : decode cX8_comesBack 0 = .ok (.iconst 0, 1) := by decide +kernel
theorem dX8_comesBack_1 : decode cX8_comesBack 1 = .ok (.istore_n 1, 1) := by decide +kernel
theorem dX8_comesBack_2 : decode cX8_comesBack 2 = .ok (.iload_n 1, 1) := by decide +kernel
theorem dX8_comesBack_3 : decode cX8_comesBack 3 = .ok (.bipush 33, 2) := by decide +kernel
theorem dX8_comesBack_5 : decode cX8_comesBack 5 = .ok (.if_icmp .ge 21, 3) := by decide +kernel
theorem dX8_comesBack_8 : decode cX8_comesBack 8 = .ok (.aload_n 0, 1) := by decide +kernel
theorem dX8_comesBack_9 : decode cX8_comesBack 9 = .ok (.getfield 7, 3) := by decide +kernel
theorem dX8_comesBack_12 : decode cX8_comesBack 12 = .ok (.iload_n 1, 1) := by decide +kernel
theorem dX8_comesBack_13 : decode cX8_comesBack 13 = .ok (.aload_n 0, 1) := by decide +kernel
theorem dX8_comesBack_14 : decode cX8_comesBack 14 = .ok (.getfield 16, 3) := by decide +kernel
theorem dX8_comesBack_17 : decode cX8_comesBack 17 = .ok (.iload_n 1, 1) := by decide +kernel
theorem dX8_comesBack_18 : decode cX8_comesBack 18 = .ok (.iaload, 1) := by decide +kernel
theorem dX8_comesBack_19 : decode cX8_comesBack 19 = .ok (.iastore, 1) := by decide +kernel
theorem dX8_comesBack_20 : decode cX8_comesBack 20 = .ok (.iinc 1 1, 3) := by decide +kernel
theorem dX8_comesBack_23 : decode cX8_comesBack 23 = .ok (.goto (-21), 3) := by decide +kernel
theorem dX8_comesBack_26 : decode cX8_comesBack 26 = .ok (.return_, 1) := by decide +kernel
theorem dX8_isCrane_0 : decode cX8_isCrane 0 = .ok (.iload_n 0, 1) := by decide +kernel
theorem dX8_isCrane_1 : decode cX8_isCrane 1 = .ok (.ifCond .eq 8, 3) := by decide +kernel
theorem dX8_isCrane_4 : decode cX8_isCrane 4 = .ok (.iload_n 0, 1) := by decide +kernel
theorem dX8_isCrane_5 : decode cX8_isCrane 5 = .ok (.iconst 1, 1) := by decide +kernel
theorem dX8_isCrane_6 : decode cX8_isCrane 6 = .ok (.if_icmp .ne 7, 3) := by decide +kernel
theorem dX8_isCrane_9 : decode cX8_isCrane 9 = .ok (.iconst 1, 1) := by decide +kernel
theorem dX8_isCrane_10 : decode cX8_isCrane 10 = .ok (.goto 4, 3) := by decide +kernel
theorem dX8_isCrane_13 : decode cX8_isCrane 13 = .ok (.iconst 0, 1) := by decide +kernel
theorem dX8_isCrane_14 : decode cX8_isCrane 14 = .ok (.ireturn, 1) := by decide +kernel
theorem dX8_of_0 : decode cX8_of 0 = .ok (.aload_n 0, 1) := by decide +kernel
theorem dX8_of_1 : decode cX8_of 1 = .ok (.getfield 7, 3) := by decide +kernel
theorem dX8_of_4 : decode cX8_of 4 = .ok (.bipush 7, 2) := by decide +kernel
theorem dX8_of_6 : decode cX8_of 6 = .ok (.bipush 13, 2) := by decide +kernel
theorem dX8_of_8 : decode cX8_of 8 = .ok (.iload_n 1, 1) := by decide +kernel
theorem dX8_of_9 : decode cX8_of 9 = .ok (.imul, 1) := by decide +kernel
theorem dX8_of_10 : decode cX8_of 10 = .ok (.iadd, 1) := by decide +kernel
theorem dX8_of_11 : decode cX8_of 11 = .ok (.iload_n 2, 1) := by decide +kernel
theorem dX8_of_12 : decode cX8_of 12 = .ok (.iadd, 1) := by decide +kernel
theorem dX8_of_13 : decode cX8_of 13 = .ok (.iaload, 1) := by decide +kernel
theorem dX8_of_14 : decode cX8_of 14 = .ok (.ireturn, 1) := by decide +kernel
theorem dX8_tells_0 : decode cX8_tells 0 = .ok (.aload_n 0, 1) := by decide +kernel
theorem dX8_tells_1 : decode cX8_tells 1 = .ok (.getfield 7, 3) := by decide +kernel
theorem dX8_tells_4 : decode cX8_tells 4 = .ok (.bipush 7, 2) := by decide +kernel
theorem dX8_tells_6 : decode cX8_tells 6 = .ok (.bipush 13, 2) := by decide +kernel
theorem dX8_tells_8 : decode cX8_tells 8 = .ok (.iload_n 1, 1) := by decide +kernel
theorem dX8_tells_9 : decode cX8_tells 9 = .ok (.imul, 1) := by decide +kernel
theorem dX8_tells_10 : decode cX8_tells 10 = .ok (.iadd, 1) := by decide +kernel
theorem dX8_tells_11 : decode cX8_tells 11 = .ok (.iload_n 2, 1) := by decide +kernel
theorem dX8_tells_12 : decode cX8_tells 12 = .ok (.iadd, 1) := by decide +kernel
theorem dX8_tells_13 : decode cX8_tells 13 = .ok (.iload_n 3, 1) := by decide +kernel
theorem dX8_tells_14 : decode cX8_tells 14 = .ok (.iastore, 1) := by decide +kernel
theorem dX8_tells_15 : decode cX8_tells 15 = .ok (.return_, 1) := by decide +kernel
set_option maxRecDepth 20000 in
theorem ggX8_limitOf_X8_of : GoodIn wsX8_limitOf wsX8_of := goodIn_r _ [6, 1, 7, 8, 9, 10, 11, 12, 13, 14, 15] (by decide +kernel) (by decide +kernel)
set_option maxRecDepth 20000 in
theorem gX8_limitOf_X8_of : GoodIn wsX8_limitOf (wsV RX8 80 RX8 yX8_of wsX8_of) := goodIn_app (goodIn_of _ (by decide +kernel)) ggX8_limitOf_X8_of
theorem dX8_limitOf_0 : decode cX8_limitOf 0 = .ok (.aload_n 0, 1) := by decide +kernel
theorem dX8_limitOf_1 : decode cX8_limitOf 1 = .ok (.getfield 7, 3) := by decide +kernel
theorem dX8_limitOf_4 : decode cX8_limitOf 4 = .ok (.iconst 3, 1) := by decide +kernel
theorem dX8_limitOf_5 : decode cX8_limitOf 5 = .ok (.iaload, 1) := by decide +kernel
theorem dX8_limitOf_6 : decode cX8_limitOf 6 = .ok (.aload_n 0, 1) := by decide +kernel
theorem dX8_limitOf_7 : decode cX8_limitOf 7 = .ok (.iload_n 1, 1) := by decide +kernel
theorem dX8_limitOf_8 : decode cX8_limitOf 8 = .ok (.iconst 3, 1) := by decide +kernel
theorem dX8_limitOf_9 : decode cX8_limitOf 9 = .ok (.invokevirtual 80, 3) := by decide +kernel
theorem dX8_limitOf_12 : decode cX8_limitOf 12 = .ok (.bipush 10, 2) := by decide +kernel
theorem dX8_limitOf_14 : decode cX8_limitOf 14 = .ok (.idiv, 1) := by decide +kernel
theorem dX8_limitOf_15 : decode cX8_limitOf 15 = .ok (.isub, 1) := by decide +kernel
theorem dX8_limitOf_16 : decode cX8_limitOf 16 = .ok (.istore_n 2, 1) := by decide +kernel
theorem dX8_limitOf_17 : decode cX8_limitOf 17 = .ok (.iload_n 2, 1) := by decide +kernel
theorem dX8_limitOf_18 : decode cX8_limitOf 18 = .ok (.iconst 1, 1) := by decide +kernel
theorem dX8_limitOf_19 : decode cX8_limitOf 19 = .ok (.if_icmp .ge 7, 3) := by decide +kernel
theorem dX8_limitOf_22 : decode cX8_limitOf 22 = .ok (.iconst 1, 1) := by decide +kernel
theorem dX8_limitOf_23 : decode cX8_limitOf 23 = .ok (.goto 4, 3) := by decide +kernel
theorem dX8_limitOf_26 : decode cX8_limitOf 26 = .ok (.iload_n 2, 1) := by decide +kernel
theorem dX8_limitOf_27 : decode cX8_limitOf 27 = .ok (.ireturn, 1) := by decide +kernel
set_option maxRecDepth 20000 in
theorem ggX8_stopBy_X8_size : GoodIn wsX8_stopBy wsX8_size := goodIn_r _ [5] (by decide +kernel) (by decide +kernel)
set_option maxRecDepth 20000 in
theorem gX8_stopBy_X8_size : GoodIn wsX8_stopBy (va_wsS RX8 84 yX8_size wsX8_size) := goodIn_app (goodIn_of _ (by decide +kernel)) ggX8_stopBy_X8_size
theorem dX8_stopBy_0 : decode cX8_stopBy 0 = .ok (.iconst 0, 1) := by decide +kernel
theorem dX8_stopBy_1 : decode cX8_stopBy 1 = .ok (.istore_n 2, 1) := by decide +kernel
theorem dX8_stopBy_2 : decode cX8_stopBy 2 = .ok (.iload_n 1, 1) := by decide +kernel
theorem dX8_stopBy_3 : decode cX8_stopBy 3 = .ok (.invokestatic 84, 3) := by decide +kernel
theorem dX8_stopBy_6 : decode cX8_stopBy 6 = .ok (.istore_n 3, 1) := by decide +kernel
theorem dX8_stopBy_7 : decode cX8_stopBy 7 = .ok (.iload_n 3, 1) := by decide +kernel
theorem dX8_stopBy_8 : decode cX8_stopBy 8 = .ok (.ifCond .le 19, 3) := by decide +kernel
theorem dX8_stopBy_11 : decode cX8_stopBy 11 = .ok (.iload_n 2, 1) := by decide +kernel
theorem dX8_stopBy_12 : decode cX8_stopBy 12 = .ok (.iload_n 3, 1) := by decide +kernel
theorem dX8_stopBy_13 : decode cX8_stopBy 13 = .ok (.iadd, 1) := by decide +kernel
theorem dX8_stopBy_14 : decode cX8_stopBy 14 = .ok (.istore_n 2, 1) := by decide +kernel
theorem dX8_stopBy_15 : decode cX8_stopBy 15 = .ok (.iload_n 3, 1) := by decide +kernel
theorem dX8_stopBy_16 : decode cX8_stopBy 16 = .ok (.aload_n 0, 1) := by decide +kernel
theorem dX8_stopBy_17 : decode cX8_stopBy 17 = .ok (.getfield 7, 3) := by decide +kernel
theorem dX8_stopBy_20 : decode cX8_stopBy 20 = .ok (.iconst 2, 1) := by decide +kernel
theorem dX8_stopBy_21 : decode cX8_stopBy 21 = .ok (.iaload, 1) := by decide +kernel
theorem dX8_stopBy_22 : decode cX8_stopBy 22 = .ok (.isub, 1) := by decide +kernel
theorem dX8_stopBy_23 : decode cX8_stopBy 23 = .ok (.istore_n 3, 1) := by decide +kernel
theorem dX8_stopBy_24 : decode cX8_stopBy 24 = .ok (.goto (-17), 3) := by decide +kernel
theorem dX8_stopBy_27 : decode cX8_stopBy 27 = .ok (.iload_n 2, 1) := by decide +kernel
theorem dX8_stopBy_28 : decode cX8_stopBy 28 = .ok (.ireturn, 1) := by decide +kernel
theorem dX8_halfOf_0 : decode cX8_halfOf 0 = .ok (.iconst 1, 1) := by decide +kernel
theorem dX8_halfOf_1 : decode cX8_halfOf 1 = .ok (.istore_n 1, 1) := by decide +kernel
theorem dX8_halfOf_2 : decode cX8_halfOf 2 = .ok (.bipush 8, 2) := by decide +kernel
theorem dX8_halfOf_4 : decode cX8_halfOf 4 = .ok (.iload_n 1, 1) := by decide +kernel
theorem dX8_halfOf_5 : decode cX8_halfOf 5 = .ok (.imul, 1) := by decide +kernel
theorem dX8_halfOf_6 : decode cX8_halfOf 6 = .ok (.iload_n 1, 1) := by decide +kernel
theorem dX8_halfOf_7 : decode cX8_halfOf 7 = .ok (.imul, 1) := by decide +kernel
theorem dX8_halfOf_8 : decode cX8_halfOf 8 = .ok (.iconst 5, 1) := by decide +kernel
theorem dX8_halfOf_9 : decode cX8_halfOf 9 = .ok (.iload_n 0, 1) := by decide +kernel
theorem dX8_halfOf_10 : decode cX8_halfOf 10 = .ok (.imul, 1) := by decide +kernel
theorem dX8_halfOf_11 : decode cX8_halfOf 11 = .ok (.if_icmp .ge 9, 3) := by decide +kernel
theorem dX8_halfOf_14 : decode cX8_halfOf 14 = .ok (.iinc 1 1, 3) := by decide +kernel
theorem dX8_halfOf_17 : decode cX8_halfOf 17 = .ok (.goto (-15), 3) := by decide +kernel
theorem dX8_halfOf_20 : decode cX8_halfOf 20 = .ok (.iload_n 1, 1) := by decide +kernel
theorem dX8_halfOf_21 : decode cX8_halfOf 21 = .ok (.ireturn, 1) := by decide +kernel
set_option maxRecDepth 20000 in
theorem ggX8_free_X8_of : GoodIn wsX8_free wsX8_of := goodIn_r _ [6, 1, 7, 8, 9, 10, 11, 12, 13, 14, 15] (by decide +kernel) (by decide +kernel)
set_option maxRecDepth 20000 in
theorem gX8_free_X8_of : GoodIn wsX8_free (wsV RX8 80 RX8 yX8_of wsX8_of) := goodIn_app (goodIn_of _ (by decide +kernel)) ggX8_free_X8_of
theorem dX8_free_0 : decode cX8_free 0 = .ok (.aload_n 0, 1) := by decide +kernel
theorem dX8_free_1 : decode cX8_free 1 = .ok (.iconst 1, 1) := by decide +kernel
theorem dX8_free_2 : decode cX8_free 2 = .ok (.iconst 0, 1) := by decide +kernel
theorem dX8_free_3 : decode cX8_free 3 = .ok (.invokevirtual 80, 3) := by decide +kernel
theorem dX8_free_6 : decode cX8_free 6 = .ok (.aload_n 0, 1) := by decide +kernel
theorem dX8_free_7 : decode cX8_free 7 = .ok (.iconst 0, 1) := by decide +kernel
theorem dX8_free_8 : decode cX8_free 8 = .ok (.iconst 0, 1) := by decide +kernel
theorem dX8_free_9 : decode cX8_free 9 = .ok (.invokevirtual 80, 3) := by decide +kernel
theorem dX8_free_12 : decode cX8_free 12 = .ok (.isub, 1) := by decide +kernel
theorem dX8_free_13 : decode cX8_free 13 = .ok (.aload_n 0, 1) := by decide +kernel
theorem dX8_free_14 : decode cX8_free 14 = .ok (.getfield 7, 3) := by decide +kernel
theorem dX8_free_17 : decode cX8_free 17 = .ok (.iconst 1, 1) := by decide +kernel
theorem dX8_free_18 : decode cX8_free 18 = .ok (.iaload, 1) := by decide +kernel
theorem dX8_free_19 : decode cX8_free 19 = .ok (.isub, 1) := by decide +kernel
theorem dX8_free_20 : decode cX8_free 20 = .ok (.ireturn, 1) := by decide +kernel
set_option maxRecDepth 20000 in
theorem ggX8_stepsCome_X8_of : GoodIn wsX8_stepsCome wsX8_of := goodIn_r _ [6, 1, 11, 12, 13, 14, 15, 16, 17, 18, 19] (by decide +kernel) (by decide +kernel)
set_option maxRecDepth 20000 in
theorem gX8_stepsCome_X8_of : GoodIn wsX8_stepsCome (wsV RX8 80 RX8 yX8_of wsX8_of) := goodIn_app (goodIn_of _ (by decide +kernel)) ggX8_stepsCome_X8_of
set_option maxRecDepth 20000 in
theorem ggX8_stepsCome_X8_tells : GoodIn wsX8_stepsCome wsX8_tells := goodIn_r _ [10, 1, 11, 12, 13, 14, 15, 16, 17, 18, 19] (by decide +kernel) (by decide +kernel)
set_option maxRecDepth 20000 in
theorem gX8_stepsCome_X8_tells : GoodIn wsX8_stepsCome (wsV RX8 88 RX8 yX8_tells wsX8_tells) := goodIn_app (goodIn_of _ (by decide +kernel)) ggX8_stepsCome_X8_tells
theorem dX8_stepsCome_0 : decode cX8_stepsCome 0 = .ok (.iconst 0, 1) := by decide +kernel
theorem dX8_stepsCome_1 : decode cX8_stepsCome 1 = .ok (.istore_n 2, 1) := by decide +kernel
theorem dX8_stepsCome_2 : decode cX8_stepsCome 2 = .ok (.aload_n 0, 1) := by decide +kernel
theorem dX8_stepsCome_3 : decode cX8_stepsCome 3 = .ok (.iload_n 1, 1) := by decide +kernel
theorem dX8_stepsCome_4 : decode cX8_stepsCome 4 = .ok (.bipush 8, 2) := by decide +kernel
theorem dX8_stepsCome_6 : decode cX8_stepsCome 6 = .ok (.invokevirtual 80, 3) := by decide +kernel
theorem dX8_stepsCome_9 : decode cX8_stepsCome 9 = .ok (.istore_n 3, 1) := by decide +kernel
theorem dX8_stepsCome_10 : decode cX8_stepsCome 10 = .ok (.iconst 0, 1) := by decide +kernel
theorem dX8_stepsCome_11 : decode cX8_stepsCome 11 = .ok (.istore 4, 2) := by decide +kernel
theorem dX8_stepsCome_13 : decode cX8_stepsCome 13 = .ok (.iload 4, 2) := by decide +kernel
theorem dX8_stepsCome_15 : decode cX8_stepsCome 15 = .ok (.iload_n 3, 1) := by decide +kernel
theorem dX8_stepsCome_16 : decode cX8_stepsCome 16 = .ok (.if_icmp .ge 102, 3) := by decide +kernel
theorem dX8_stepsCome_19 : decode cX8_stepsCome 19 = .ok (.aload_n 0, 1) := by decide +kernel
theorem dX8_stepsCome_20 : decode cX8_stepsCome 20 = .ok (.iload_n 1, 1) := by decide +kernel
theorem dX8_stepsCome_21 : decode cX8_stepsCome 21 = .ok (.bipush 9, 2) := by decide +kernel
theorem dX8_stepsCome_23 : decode cX8_stepsCome 23 = .ok (.iconst 2, 1) := by decide +kernel
theorem dX8_stepsCome_24 : decode cX8_stepsCome 24 = .ok (.iload 4, 2) := by decide +kernel
theorem dX8_stepsCome_26 : decode cX8_stepsCome 26 = .ok (.imul, 1) := by decide +kernel
theorem dX8_stepsCome_27 : decode cX8_stepsCome 27 = .ok (.iadd, 1) := by decide +kernel
theorem dX8_stepsCome_28 : decode cX8_stepsCome 28 = .ok (.invokevirtual 80, 3) := by decide +kernel
theorem dX8_stepsCome_31 : decode cX8_stepsCome 31 = .ok (.istore 5, 2) := by decide +kernel
theorem dX8_stepsCome_33 : decode cX8_stepsCome 33 = .ok (.aload_n 0, 1) := by decide +kernel
theorem dX8_stepsCome_34 : decode cX8_stepsCome 34 = .ok (.iload_n 1, 1) := by decide +kernel
theorem dX8_stepsCome_35 : decode cX8_stepsCome 35 = .ok (.bipush 9, 2) := by decide +kernel
theorem dX8_stepsCome_37 : decode cX8_stepsCome 37 = .ok (.iconst 2, 1) := by decide +kernel
theorem dX8_stepsCome_38 : decode cX8_stepsCome 38 = .ok (.iload 4, 2) := by decide +kernel
theorem dX8_stepsCome_40 : decode cX8_stepsCome 40 = .ok (.imul, 1) := by decide +kernel
theorem dX8_stepsCome_41 : decode cX8_stepsCome 41 = .ok (.iadd, 1) := by decide +kernel
theorem dX8_stepsCome_42 : decode cX8_stepsCome 42 = .ok (.iconst 1, 1) := by decide +kernel
theorem dX8_stepsCome_43 : decode cX8_stepsCome 43 = .ok (.iadd, 1) := by decide +kernel
theorem dX8_stepsCome_44 : decode cX8_stepsCome 44 = .ok (.invokevirtual 80, 3) := by decide +kernel
theorem dX8_stepsCome_47 : decode cX8_stepsCome 47 = .ok (.istore 6, 2) := by decide +kernel
theorem dX8_stepsCome_49 : decode cX8_stepsCome 49 = .ok (.iload 5, 2) := by decide +kernel
theorem dX8_stepsCome_51 : decode cX8_stepsCome 51 = .ok (.aload_n 0, 1) := by decide +kernel
theorem dX8_stepsCome_52 : decode cX8_stepsCome 52 = .ok (.getfield 7, 3) := by decide +kernel
theorem dX8_stepsCome_55 : decode cX8_stepsCome 55 = .ok (.bipush 6, 2) := by decide +kernel
theorem dX8_stepsCome_57 : decode cX8_stepsCome 57 = .ok (.iaload, 1) := by decide +kernel
theorem dX8_stepsCome_58 : decode cX8_stepsCome 58 = .ok (.if_icmp .ne 23, 3) := by decide +kernel
theorem dX8_stepsCome_61 : decode cX8_stepsCome 61 = .ok (.aload_n 0, 1) := by decide +kernel
theorem dX8_stepsCome_62 : decode cX8_stepsCome 62 = .ok (.iload_n 1, 1) := by decide +kernel
theorem dX8_stepsCome_63 : decode cX8_stepsCome 63 = .ok (.bipush 6, 2) := by decide +kernel
theorem dX8_stepsCome_65 : decode cX8_stepsCome 65 = .ok (.aload_n 0, 1) := by decide +kernel
theorem dX8_stepsCome_66 : decode cX8_stepsCome 66 = .ok (.iload_n 1, 1) := by decide +kernel
theorem dX8_stepsCome_67 : decode cX8_stepsCome 67 = .ok (.bipush 6, 2) := by decide +kernel
theorem dX8_stepsCome_69 : decode cX8_stepsCome 69 = .ok (.invokevirtual 80, 3) := by decide +kernel
theorem dX8_stepsCome_72 : decode cX8_stepsCome 72 = .ok (.iload 6, 2) := by decide +kernel
theorem dX8_stepsCome_74 : decode cX8_stepsCome 74 = .ok (.iadd, 1) := by decide +kernel
theorem dX8_stepsCome_75 : decode cX8_stepsCome 75 = .ok (.invokevirtual 88, 3) := by decide +kernel
theorem dX8_stepsCome_78 : decode cX8_stepsCome 78 = .ok (.goto 34, 3) := by decide +kernel
theorem dX8_stepsCome_81 : decode cX8_stepsCome 81 = .ok (.aload_n 0, 1) := by decide +kernel
theorem dX8_stepsCome_82 : decode cX8_stepsCome 82 = .ok (.iload_n 1, 1) := by decide +kernel
theorem dX8_stepsCome_83 : decode cX8_stepsCome 83 = .ok (.bipush 9, 2) := by decide +kernel
theorem dX8_stepsCome_85 : decode cX8_stepsCome 85 = .ok (.iconst 2, 1) := by decide +kernel
theorem dX8_stepsCome_86 : decode cX8_stepsCome 86 = .ok (.iload_n 2, 1) := by decide +kernel
theorem dX8_stepsCome_87 : decode cX8_stepsCome 87 = .ok (.imul, 1) := by decide +kernel
theorem dX8_stepsCome_88 : decode cX8_stepsCome 88 = .ok (.iadd, 1) := by decide +kernel
theorem dX8_stepsCome_89 : decode cX8_stepsCome 89 = .ok (.iload 5, 2) := by decide +kernel
theorem dX8_stepsCome_91 : decode cX8_stepsCome 91 = .ok (.invokevirtual 88, 3) := by decide +kernel
theorem dX8_stepsCome_94 : decode cX8_stepsCome 94 = .ok (.aload_n 0, 1) := by decide +kernel
theorem dX8_stepsCome_95 : decode cX8_stepsCome 95 = .ok (.iload_n 1, 1) := by decide +kernel
theorem dX8_stepsCome_96 : decode cX8_stepsCome 96 = .ok (.bipush 9, 2) := by decide +kernel
theorem dX8_stepsCome_98 : decode cX8_stepsCome 98 = .ok (.iconst 2, 1) := by decide +kernel
theorem dX8_stepsCome_99 : decode cX8_stepsCome 99 = .ok (.iload_n 2, 1) := by decide +kernel
theorem dX8_stepsCome_100 : decode cX8_stepsCome 100 = .ok (.imul, 1) := by decide +kernel
theorem dX8_stepsCome_101 : decode cX8_stepsCome 101 = .ok (.iadd, 1) := by decide +kernel
theorem dX8_stepsCome_102 : decode cX8_stepsCome 102 = .ok (.iconst 1, 1) := by decide +kernel
theorem dX8_stepsCome_103 : decode cX8_stepsCome 103 = .ok (.iadd, 1) := by decide +kernel
theorem dX8_stepsCome_104 : decode cX8_stepsCome 104 = .ok (.iload 6, 2) := by decide +kernel
theorem dX8_stepsCome_106 : decode cX8_stepsCome 106 = .ok (.invokevirtual 88, 3) := by decide +kernel
theorem dX8_stepsCome_109 : decode cX8_stepsCome 109 = .ok (.iinc 2 1, 3) := by decide +kernel
theorem dX8_stepsCome_112 : decode cX8_stepsCome 112 = .ok (.iinc 4 1, 3) := by decide +kernel
theorem dX8_stepsCome_115 : decode cX8_stepsCome 115 = .ok (.goto (-102), 3) := by decide +kernel
theorem dX8_stepsCome_118 : decode cX8_stepsCome 118 = .ok (.aload_n 0, 1) := by decide +kernel
theorem dX8_stepsCome_119 : decode cX8_stepsCome 119 = .ok (.iload_n 1, 1) := by decide +kernel
theorem dX8_stepsCome_120 : decode cX8_stepsCome 120 = .ok (.bipush 8, 2) := by decide +kernel
theorem dX8_stepsCome_122 : decode cX8_stepsCome 122 = .ok (.iload_n 2, 1) := by decide +kernel
theorem dX8_stepsCome_123 : decode cX8_stepsCome 123 = .ok (.invokevirtual 88, 3) := by decide +kernel
theorem dX8_stepsCome_126 : decode cX8_stepsCome 126 = .ok (.iconst 2, 1) := by decide +kernel
theorem dX8_stepsCome_127 : decode cX8_stepsCome 127 = .ok (.iload_n 2, 1) := by decide +kernel
theorem dX8_stepsCome_128 : decode cX8_stepsCome 128 = .ok (.imul, 1) := by decide +kernel
theorem dX8_stepsCome_129 : decode cX8_stepsCome 129 = .ok (.istore 4, 2) := by decide +kernel
theorem dX8_stepsCome_131 : decode cX8_stepsCome 131 = .ok (.iload 4, 2) := by decide +kernel
theorem dX8_stepsCome_133 : decode cX8_stepsCome 133 = .ok (.iconst 4, 1) := by decide +kernel
theorem dX8_stepsCome_134 : decode cX8_stepsCome 134 = .ok (.if_icmp .ge 20, 3) := by decide +kernel
theorem dX8_stepsCome_137 : decode cX8_stepsCome 137 = .ok (.aload_n 0, 1) := by decide +kernel
theorem dX8_stepsCome_138 : decode cX8_stepsCome 138 = .ok (.iload_n 1, 1) := by decide +kernel
theorem dX8_stepsCome_139 : decode cX8_stepsCome 139 = .ok (.bipush 9, 2) := by decide +kernel
theorem dX8_stepsCome_141 : decode cX8_stepsCome 141 = .ok (.iload 4, 2) := by decide +kernel
theorem dX8_stepsCome_143 : decode cX8_stepsCome 143 = .ok (.iadd, 1) := by decide +kernel
theorem dX8_stepsCome_144 : decode cX8_stepsCome 144 = .ok (.iconst 0, 1) := by decide +kernel
theorem dX8_stepsCome_145 : decode cX8_stepsCome 145 = .ok (.invokevirtual 88, 3) := by decide +kernel
theorem dX8_stepsCome_148 : decode cX8_stepsCome 148 = .ok (.iinc 4 1, 3) := by decide +kernel
theorem dX8_stepsCome_151 : decode cX8_stepsCome 151 = .ok (.goto (-20), 3) := by decide +kernel
theorem dX8_stepsCome_154 : decode cX8_stepsCome 154 = .ok (.return_, 1) := by decide +kernel
set_option maxRecDepth 20000 in
theorem ggX8_wanted_X8_limitOf : GoodIn wsX8_wanted wsX8_limitOf := goodIn_r _ [6, 1, 7, 8, 9, 5, 10, 11, 12, 13, 14, 15, 16, 17, 18, 19] (by decide +kernel) (by decide +kernel)
set_option maxRecDepth 20000 in
theorem gX8_wanted_X8_limitOf : GoodIn wsX8_wanted (wsV RX8 92 RX8 yX8_limitOf wsX8_limitOf) := goodIn_app (goodIn_of _ (by decide +kernel)) ggX8_wanted_X8_limitOf
set_option maxRecDepth 20000 in
theorem ggX8_wanted_X8_of : GoodIn wsX8_wanted wsX8_of := goodIn_r _ [10, 1, 11, 12, 13, 14, 15, 16, 17, 18, 19] (by decide +kernel) (by decide +kernel)
set_option maxRecDepth 20000 in
theorem gX8_wanted_X8_of : GoodIn wsX8_wanted (wsV RX8 80 RX8 yX8_of wsX8_of) := goodIn_app (goodIn_of _ (by decide +kernel)) ggX8_wanted_X8_of
theorem dX8_wanted_0 : decode cX8_wanted 0 = .ok (.aload_n 0, 1) := by decide +kernel
theorem dX8_wanted_1 : decode cX8_wanted 1 = .ok (.iload_n 1, 1) := by decide +kernel
theorem dX8_wanted_2 : decode cX8_wanted 2 = .ok (.invokevirtual 92, 3) := by decide +kernel
theorem dX8_wanted_5 : decode cX8_wanted 5 = .ok (.istore_n 2, 1) := by decide +kernel
theorem dX8_wanted_6 : decode cX8_wanted 6 = .ok (.aload_n 0, 1) := by decide +kernel
theorem dX8_wanted_7 : decode cX8_wanted 7 = .ok (.iload_n 1, 1) := by decide +kernel
theorem dX8_wanted_8 : decode cX8_wanted 8 = .ok (.bipush 6, 2) := by decide +kernel
theorem dX8_wanted_10 : decode cX8_wanted 10 = .ok (.invokevirtual 80, 3) := by decide +kernel
theorem dX8_wanted_13 : decode cX8_wanted 13 = .ok (.istore_n 3, 1) := by decide +kernel
theorem dX8_wanted_14 : decode cX8_wanted 14 = .ok (.iload_n 3, 1) := by decide +kernel
theorem dX8_wanted_15 : decode cX8_wanted 15 = .ok (.iload_n 2, 1) := by decide +kernel
theorem dX8_wanted_16 : decode cX8_wanted 16 = .ok (.if_icmp .le 7, 3) := by decide +kernel
theorem dX8_wanted_19 : decode cX8_wanted 19 = .ok (.iload_n 2, 1) := by decide +kernel
theorem dX8_wanted_20 : decode cX8_wanted 20 = .ok (.goto 15, 3) := by decide +kernel
theorem dX8_wanted_23 : decode cX8_wanted 23 = .ok (.iload_n 3, 1) := by decide +kernel
theorem dX8_wanted_24 : decode cX8_wanted 24 = .ok (.iload_n 2, 1) := by decide +kernel
theorem dX8_wanted_25 : decode cX8_wanted 25 = .ok (.ineg, 1) := by decide +kernel
theorem dX8_wanted_26 : decode cX8_wanted 26 = .ok (.if_icmp .ge 8, 3) := by decide +kernel
theorem dX8_wanted_29 : decode cX8_wanted 29 = .ok (.iload_n 2, 1) := by decide +kernel
theorem dX8_wanted_30 : decode cX8_wanted 30 = .ok (.ineg, 1) := by decide +kernel
theorem dX8_wanted_31 : decode cX8_wanted 31 = .ok (.goto 4, 3) := by decide +kernel
theorem dX8_wanted_34 : decode cX8_wanted 34 = .ok (.iload_n 3, 1) := by decide +kernel
theorem dX8_wanted_35 : decode cX8_wanted 35 = .ok (.istore_n 3, 1) := by decide +kernel
theorem dX8_wanted_36 : decode cX8_wanted 36 = .ok (.aload_n 0, 1) := by decide +kernel
theorem dX8_wanted_37 : decode cX8_wanted 37 = .ok (.iload_n 1, 1) := by decide +kernel
theorem dX8_wanted_38 : decode cX8_wanted 38 = .ok (.iconst 1, 1) := by decide +kernel
theorem dX8_wanted_39 : decode cX8_wanted 39 = .ok (.invokevirtual 80, 3) := by decide +kernel
theorem dX8_wanted_42 : decode cX8_wanted 42 = .ok (.istore 4, 2) := by decide +kernel
theorem dX8_wanted_44 : decode cX8_wanted 44 = .ok (.iload_n 3, 1) := by decide +kernel
theorem dX8_wanted_45 : decode cX8_wanted 45 = .ok (.iload 4, 2) := by decide +kernel
theorem dX8_wanted_47 : decode cX8_wanted 47 = .ok (.isub, 1) := by decide +kernel
theorem dX8_wanted_48 : decode cX8_wanted 48 = .ok (.istore 5, 2) := by decide +kernel
theorem dX8_wanted_50 : decode cX8_wanted 50 = .ok (.iload 5, 2) := by decide +kernel
theorem dX8_wanted_52 : decode cX8_wanted 52 = .ok (.aload_n 0, 1) := by decide +kernel
theorem dX8_wanted_53 : decode cX8_wanted 53 = .ok (.getfield 7, 3) := by decide +kernel
theorem dX8_wanted_56 : decode cX8_wanted 56 = .ok (.iconst 2, 1) := by decide +kernel
theorem dX8_wanted_57 : decode cX8_wanted 57 = .ok (.iaload, 1) := by decide +kernel
theorem dX8_wanted_58 : decode cX8_wanted 58 = .ok (.if_icmp .le 12, 3) := by decide +kernel
theorem dX8_wanted_61 : decode cX8_wanted 61 = .ok (.aload_n 0, 1) := by decide +kernel
theorem dX8_wanted_62 : decode cX8_wanted 62 = .ok (.getfield 7, 3) := by decide +kernel
theorem dX8_wanted_65 : decode cX8_wanted 65 = .ok (.iconst 2, 1) := by decide +kernel
theorem dX8_wanted_66 : decode cX8_wanted 66 = .ok (.iaload, 1) := by decide +kernel
theorem dX8_wanted_67 : decode cX8_wanted 67 = .ok (.goto 27, 3) := by decide +kernel
theorem dX8_wanted_70 : decode cX8_wanted 70 = .ok (.iload 5, 2) := by decide +kernel
theorem dX8_wanted_72 : decode cX8_wanted 72 = .ok (.aload_n 0, 1) := by decide +kernel
theorem dX8_wanted_73 : decode cX8_wanted 73 = .ok (.getfield 7, 3) := by decide +kernel
theorem dX8_wanted_76 : decode cX8_wanted 76 = .ok (.iconst 2, 1) := by decide +kernel
theorem dX8_wanted_77 : decode cX8_wanted 77 = .ok (.iaload, 1) := by decide +kernel
theorem dX8_wanted_78 : decode cX8_wanted 78 = .ok (.ineg, 1) := by decide +kernel
theorem dX8_wanted_79 : decode cX8_wanted 79 = .ok (.if_icmp .ge 13, 3) := by decide +kernel
theorem dX8_wanted_82 : decode cX8_wanted 82 = .ok (.aload_n 0, 1) := by decide +kernel
theorem dX8_wanted_83 : decode cX8_wanted 83 = .ok (.getfield 7, 3) := by decide +kernel
theorem dX8_wanted_86 : decode cX8_wanted 86 = .ok (.iconst 2, 1) := by decide +kernel
theorem dX8_wanted_87 : decode cX8_wanted 87 = .ok (.iaload, 1) := by decide +kernel
theorem dX8_wanted_88 : decode cX8_wanted 88 = .ok (.ineg, 1) := by decide +kernel
theorem dX8_wanted_89 : decode cX8_wanted 89 = .ok (.goto 5, 3) := by decide +kernel
theorem dX8_wanted_92 : decode cX8_wanted 92 = .ok (.iload 5, 2) := by decide +kernel
theorem dX8_wanted_94 : decode cX8_wanted 94 = .ok (.istore 5, 2) := by decide +kernel
theorem dX8_wanted_96 : decode cX8_wanted 96 = .ok (.iload 4, 2) := by decide +kernel
theorem dX8_wanted_98 : decode cX8_wanted 98 = .ok (.iload 5, 2) := by decide +kernel
theorem dX8_wanted_100 : decode cX8_wanted 100 = .ok (.iadd, 1) := by decide +kernel
theorem dX8_wanted_101 : decode cX8_wanted 101 = .ok (.ireturn, 1) := by decide +kernel
set_option maxRecDepth 20000 in
theorem ggX8_roomFor_X8_free : GoodIn wsX8_roomFor wsX8_free := goodIn_r _ [6, 1, 7, 8, 9, 5, 10, 11, 12, 13, 14, 15, 16, 17, 18, 19] (by decide +kernel) (by decide +kernel)
set_option maxRecDepth 20000 in
theorem gX8_roomFor_X8_free : GoodIn wsX8_roomFor (wsV RX8 95 RX8 yX8_free wsX8_free) := goodIn_app (goodIn_of _ (by decide +kernel)) ggX8_roomFor_X8_free
set_option maxRecDepth 20000 in
theorem ggX8_roomFor_X8_of : GoodIn wsX8_roomFor wsX8_of := goodIn_r _ [10, 1, 11, 12, 13, 14, 15, 16, 17, 18, 19] (by decide +kernel) (by decide +kernel)
set_option maxRecDepth 20000 in
theorem gX8_roomFor_X8_of : GoodIn wsX8_roomFor (wsV RX8 80 RX8 yX8_of wsX8_of) := goodIn_app (goodIn_of _ (by decide +kernel)) ggX8_roomFor_X8_of
theorem dX8_roomFor_0 : decode cX8_roomFor 0 = .ok (.iload_n 2, 1) := by decide +kernel
theorem dX8_roomFor_1 : decode cX8_roomFor 1 = .ok (.ifCond .le 30, 3) := by decide +kernel
theorem dX8_roomFor_4 : decode cX8_roomFor 4 = .ok (.iload_n 1, 1) := by decide +kernel
theorem dX8_roomFor_5 : decode cX8_roomFor 5 = .ok (.ifCond .ne 12, 3) := by decide +kernel
theorem dX8_roomFor_8 : decode cX8_roomFor 8 = .ok (.aload_n 0, 1) := by decide +kernel
theorem dX8_roomFor_9 : decode cX8_roomFor 9 = .ok (.invokevirtual 95, 3) := by decide +kernel
theorem dX8_roomFor_12 : decode cX8_roomFor 12 = .ok (.iconst 2, 1) := by decide +kernel
theorem dX8_roomFor_13 : decode cX8_roomFor 13 = .ok (.idiv, 1) := by decide +kernel
theorem dX8_roomFor_14 : decode cX8_roomFor 14 = .ok (.goto 16, 3) := by decide +kernel
theorem dX8_roomFor_17 : decode cX8_roomFor 17 = .ok (.aload_n 0, 1) := by decide +kernel
theorem dX8_roomFor_18 : decode cX8_roomFor 18 = .ok (.getfield 7, 3) := by decide +kernel
theorem dX8_roomFor_21 : decode cX8_roomFor 21 = .ok (.iconst 0, 1) := by decide +kernel
theorem dX8_roomFor_22 : decode cX8_roomFor 22 = .ok (.iaload, 1) := by decide +kernel
theorem dX8_roomFor_23 : decode cX8_roomFor 23 = .ok (.aload_n 0, 1) := by decide +kernel
theorem dX8_roomFor_24 : decode cX8_roomFor 24 = .ok (.iconst 1, 1) := by decide +kernel
theorem dX8_roomFor_25 : decode cX8_roomFor 25 = .ok (.iconst 0, 1) := by decide +kernel
theorem dX8_roomFor_26 : decode cX8_roomFor 26 = .ok (.invokevirtual 80, 3) := by decide +kernel
theorem dX8_roomFor_29 : decode cX8_roomFor 29 = .ok (.isub, 1) := by decide +kernel
theorem dX8_roomFor_30 : decode cX8_roomFor 30 = .ok (.ireturn, 1) := by decide +kernel
theorem dX8_roomFor_31 : decode cX8_roomFor 31 = .ok (.iload_n 1, 1) := by decide +kernel
theorem dX8_roomFor_32 : decode cX8_roomFor 32 = .ok (.ifCond .ne 12, 3) := by decide +kernel
theorem dX8_roomFor_35 : decode cX8_roomFor 35 = .ok (.aload_n 0, 1) := by decide +kernel
theorem dX8_roomFor_36 : decode cX8_roomFor 36 = .ok (.iconst 0, 1) := by decide +kernel
theorem dX8_roomFor_37 : decode cX8_roomFor 37 = .ok (.iconst 0, 1) := by decide +kernel
theorem dX8_roomFor_38 : decode cX8_roomFor 38 = .ok (.invokevirtual 80, 3) := by decide +kernel
theorem dX8_roomFor_41 : decode cX8_roomFor 41 = .ok (.goto 9, 3) := by decide +kernel
theorem dX8_roomFor_44 : decode cX8_roomFor 44 = .ok (.aload_n 0, 1) := by decide +kernel
theorem dX8_roomFor_45 : decode cX8_roomFor 45 = .ok (.invokevirtual 95, 3) := by decide +kernel
theorem dX8_roomFor_48 : decode cX8_roomFor 48 = .ok (.iconst 2, 1) := by decide +kernel
theorem dX8_roomFor_49 : decode cX8_roomFor 49 = .ok (.idiv, 1) := by decide +kernel
theorem dX8_roomFor_50 : decode cX8_roomFor 50 = .ok (.ireturn, 1) := by decide +kernel
set_option maxRecDepth 20000 in
theorem ggX8_braked_X8_roomFor : GoodIn wsX8_braked wsX8_roomFor := goodIn_r _ [5, 6, 7, 8, 9, 4, 10, 11, 12, 13, 14, 22, 23, 24, 25, 26, 27, 28, 29, 30] (by decide +kernel) (by decide +kernel)
set_option maxRecDepth 20000 in
theorem gX8_braked_X8_roomFor : GoodIn wsX8_braked (wsV RX8 98 RX8 yX8_roomFor wsX8_roomFor) := goodIn_app (goodIn_of _ (by decide +kernel)) ggX8_braked_X8_roomFor
set_option maxRecDepth 20000 in
theorem ggX8_braked_X8_stopBy : GoodIn wsX8_braked wsX8_stopBy := goodIn_r _ [18, 6, 19, 20, 4, 21, 22, 23, 24, 25, 26, 27, 28, 29, 30] (by decide +kernel) (by decide +kernel)
set_option maxRecDepth 20000 in
theorem gX8_braked_X8_stopBy : GoodIn wsX8_braked (wsV RX8 101 RX8 yX8_stopBy wsX8_stopBy) := goodIn_app (goodIn_of _ (by decide +kernel)) ggX8_braked_X8_stopBy
theorem dX8_braked_0 : decode cX8_braked 0 = .ok (.aload_n 0, 1) := by decide +kernel
theorem dX8_braked_1 : decode cX8_braked 1 = .ok (.iload_n 1, 1) := by decide +kernel
theorem dX8_braked_2 : decode cX8_braked 2 = .ok (.iload_n 2, 1) := by decide +kernel
theorem dX8_braked_3 : decode cX8_braked 3 = .ok (.invokevirtual 98, 3) := by decide +kernel
theorem dX8_braked_6 : decode cX8_braked 6 = .ok (.istore_n 3, 1) := by decide +kernel
theorem dX8_braked_7 : decode cX8_braked 7 = .ok (.iload_n 2, 1) := by decide +kernel
theorem dX8_braked_8 : decode cX8_braked 8 = .ok (.istore 4, 2) := by decide +kernel
theorem dX8_braked_10 : decode cX8_braked 10 = .ok (.iload 4, 2) := by decide +kernel
theorem dX8_braked_12 : decode cX8_braked 12 = .ok (.ifCond .eq 31, 3) := by decide +kernel
theorem dX8_braked_15 : decode cX8_braked 15 = .ok (.aload_n 0, 1) := by decide +kernel
theorem dX8_braked_16 : decode cX8_braked 16 = .ok (.iload 4, 2) := by decide +kernel
theorem dX8_braked_18 : decode cX8_braked 18 = .ok (.invokevirtual 101, 3) := by decide +kernel
theorem dX8_braked_21 : decode cX8_braked 21 = .ok (.iload_n 3, 1) := by decide +kernel
theorem dX8_braked_22 : decode cX8_braked 22 = .ok (.if_icmp .le 21, 3) := by decide +kernel
theorem dX8_braked_25 : decode cX8_braked 25 = .ok (.iload 4, 2) := by decide +kernel
theorem dX8_braked_27 : decode cX8_braked 27 = .ok (.iload 4, 2) := by decide +kernel
theorem dX8_braked_29 : decode cX8_braked 29 = .ok (.ifCond .le 7, 3) := by decide +kernel
theorem dX8_braked_32 : decode cX8_braked 32 = .ok (.iconst (-1), 1) := by decide +kernel
theorem dX8_braked_33 : decode cX8_braked 33 = .ok (.goto 4, 3) := by decide +kernel
theorem dX8_braked_36 : decode cX8_braked 36 = .ok (.iconst 1, 1) := by decide +kernel
theorem dX8_braked_37 : decode cX8_braked 37 = .ok (.iadd, 1) := by decide +kernel
theorem dX8_braked_38 : decode cX8_braked 38 = .ok (.istore 4, 2) := by decide +kernel
theorem dX8_braked_40 : decode cX8_braked 40 = .ok (.goto (-30), 3) := by decide +kernel
theorem dX8_braked_43 : decode cX8_braked 43 = .ok (.iload 4, 2) := by decide +kernel
theorem dX8_braked_45 : decode cX8_braked 45 = .ok (.ireturn, 1) := by decide +kernel
theorem dX8_kept_0 : decode cX8_kept 0 = .ok (.iload_n 0, 1) := by decide +kernel
theorem dX8_kept_1 : decode cX8_kept 1 = .ok (.sipush 9999, 3) := by decide +kernel
theorem dX8_kept_4 : decode cX8_kept 4 = .ok (.if_icmp .le 9, 3) := by decide +kernel
theorem dX8_kept_7 : decode cX8_kept 7 = .ok (.sipush 9999, 3) := by decide +kernel
theorem dX8_kept_10 : decode cX8_kept 10 = .ok (.goto 17, 3) := by decide +kernel
theorem dX8_kept_13 : decode cX8_kept 13 = .ok (.iload_n 0, 1) := by decide +kernel
theorem dX8_kept_14 : decode cX8_kept 14 = .ok (.sipush (-9999), 3) := by decide +kernel
theorem dX8_kept_17 : decode cX8_kept 17 = .ok (.if_icmp .ge 9, 3) := by decide +kernel
theorem dX8_kept_20 : decode cX8_kept 20 = .ok (.sipush (-9999), 3) := by decide +kernel
theorem dX8_kept_23 : decode cX8_kept 23 = .ok (.goto 4, 3) := by decide +kernel
theorem dX8_kept_26 : decode cX8_kept 26 = .ok (.iload_n 0, 1) := by decide +kernel
theorem dX8_kept_27 : decode cX8_kept 27 = .ok (.ireturn, 1) := by decide +kernel
set_option maxRecDepth 20000 in
theorem ggX8_goes_X8_of : GoodIn wsX8_goes wsX8_of := goodIn_r _ [5, 6, 14, 15, 16, 17, 18, 19, 20, 21, 22] (by decide +kernel) (by decide +kernel)
set_option maxRecDepth 20000 in
theorem gX8_goes_X8_of : GoodIn wsX8_goes (wsV RX8 80 RX8 yX8_of wsX8_of) := goodIn_app (goodIn_of _ (by decide +kernel)) ggX8_goes_X8_of
set_option maxRecDepth 20000 in
theorem ggX8_goes_X8_tells : GoodIn wsX8_goes wsX8_tells := goodIn_r _ [10, 6, 14, 15, 16, 17, 18, 19, 20, 21, 22] (by decide +kernel) (by decide +kernel)
set_option maxRecDepth 20000 in
theorem gX8_goes_X8_tells : GoodIn wsX8_goes (wsV RX8 88 RX8 yX8_tells wsX8_tells) := goodIn_app (goodIn_of _ (by decide +kernel)) ggX8_goes_X8_tells
set_option maxRecDepth 20000 in
theorem ggX8_goes_X8_kept : GoodIn wsX8_goes wsX8_kept := goodIn_r _ [13] (by decide +kernel) (by decide +kernel)
set_option maxRecDepth 20000 in
theorem gX8_goes_X8_kept : GoodIn wsX8_goes (va_wsS RX8 104 yX8_kept wsX8_kept) := goodIn_app (goodIn_of _ (by decide +kernel)) ggX8_goes_X8_kept
theorem dX8_goes_0 : decode cX8_goes 0 = .ok (.iload_n 2, 1) := by decide +kernel
theorem dX8_goes_1 : decode cX8_goes 1 = .ok (.aload_n 0, 1) := by decide +kernel
theorem dX8_goes_2 : decode cX8_goes 2 = .ok (.iload_n 1, 1) := by decide +kernel
theorem dX8_goes_3 : decode cX8_goes 3 = .ok (.iconst 1, 1) := by decide +kernel
theorem dX8_goes_4 : decode cX8_goes 4 = .ok (.invokevirtual 80, 3) := by decide +kernel
theorem dX8_goes_7 : decode cX8_goes 7 = .ok (.isub, 1) := by decide +kernel
theorem dX8_goes_8 : decode cX8_goes 8 = .ok (.istore_n 3, 1) := by decide +kernel
theorem dX8_goes_9 : decode cX8_goes 9 = .ok (.aload_n 0, 1) := by decide +kernel
theorem dX8_goes_10 : decode cX8_goes 10 = .ok (.iload_n 1, 1) := by decide +kernel
theorem dX8_goes_11 : decode cX8_goes 11 = .ok (.iconst 0, 1) := by decide +kernel
theorem dX8_goes_12 : decode cX8_goes 12 = .ok (.aload_n 0, 1) := by decide +kernel
theorem dX8_goes_13 : decode cX8_goes 13 = .ok (.iload_n 1, 1) := by decide +kernel
theorem dX8_goes_14 : decode cX8_goes 14 = .ok (.iconst 0, 1) := by decide +kernel
theorem dX8_goes_15 : decode cX8_goes 15 = .ok (.invokevirtual 80, 3) := by decide +kernel
theorem dX8_goes_18 : decode cX8_goes 18 = .ok (.iload_n 2, 1) := by decide +kernel
theorem dX8_goes_19 : decode cX8_goes 19 = .ok (.iadd, 1) := by decide +kernel
theorem dX8_goes_20 : decode cX8_goes 20 = .ok (.invokevirtual 88, 3) := by decide +kernel
theorem dX8_goes_23 : decode cX8_goes 23 = .ok (.aload_n 0, 1) := by decide +kernel
theorem dX8_goes_24 : decode cX8_goes 24 = .ok (.iload_n 1, 1) := by decide +kernel
theorem dX8_goes_25 : decode cX8_goes 25 = .ok (.iconst 1, 1) := by decide +kernel
theorem dX8_goes_26 : decode cX8_goes 26 = .ok (.iload_n 2, 1) := by decide +kernel
theorem dX8_goes_27 : decode cX8_goes 27 = .ok (.invokevirtual 88, 3) := by decide +kernel
theorem dX8_goes_30 : decode cX8_goes 30 = .ok (.aload_n 0, 1) := by decide +kernel
theorem dX8_goes_31 : decode cX8_goes 31 = .ok (.iload_n 1, 1) := by decide +kernel
theorem dX8_goes_32 : decode cX8_goes 32 = .ok (.iconst 5, 1) := by decide +kernel
theorem dX8_goes_33 : decode cX8_goes 33 = .ok (.aload_n 0, 1) := by decide +kernel
theorem dX8_goes_34 : decode cX8_goes 34 = .ok (.iload_n 1, 1) := by decide +kernel
theorem dX8_goes_35 : decode cX8_goes 35 = .ok (.iconst 5, 1) := by decide +kernel
theorem dX8_goes_36 : decode cX8_goes 36 = .ok (.invokevirtual 80, 3) := by decide +kernel
theorem dX8_goes_39 : decode cX8_goes 39 = .ok (.bipush 16, 2) := by decide +kernel
theorem dX8_goes_41 : decode cX8_goes 41 = .ok (.aload_n 0, 1) := by decide +kernel
theorem dX8_goes_42 : decode cX8_goes 42 = .ok (.iload_n 1, 1) := by decide +kernel
theorem dX8_goes_43 : decode cX8_goes 43 = .ok (.iconst 4, 1) := by decide +kernel
theorem dX8_goes_44 : decode cX8_goes 44 = .ok (.invokevirtual 80, 3) := by decide +kernel
theorem dX8_goes_47 : decode cX8_goes 47 = .ok (.imul, 1) := by decide +kernel
theorem dX8_goes_48 : decode cX8_goes 48 = .ok (.aload_n 0, 1) := by decide +kernel
theorem dX8_goes_49 : decode cX8_goes 49 = .ok (.iload_n 1, 1) := by decide +kernel
theorem dX8_goes_50 : decode cX8_goes 50 = .ok (.iconst 2, 1) := by decide +kernel
theorem dX8_goes_51 : decode cX8_goes 51 = .ok (.invokevirtual 80, 3) := by decide +kernel
theorem dX8_goes_54 : decode cX8_goes 54 = .ok (.idiv, 1) := by decide +kernel
theorem dX8_goes_55 : decode cX8_goes 55 = .ok (.isub, 1) := by decide +kernel
theorem dX8_goes_56 : decode cX8_goes 56 = .ok (.iconst 4, 1) := by decide +kernel
theorem dX8_goes_57 : decode cX8_goes 57 = .ok (.iload_n 3, 1) := by decide +kernel
theorem dX8_goes_58 : decode cX8_goes 58 = .ok (.imul, 1) := by decide +kernel
theorem dX8_goes_59 : decode cX8_goes 59 = .ok (.isub, 1) := by decide +kernel
theorem dX8_goes_60 : decode cX8_goes 60 = .ok (.invokestatic 104, 3) := by decide +kernel
theorem dX8_goes_63 : decode cX8_goes 63 = .ok (.invokevirtual 88, 3) := by decide +kernel
theorem dX8_goes_66 : decode cX8_goes 66 = .ok (.aload_n 0, 1) := by decide +kernel
theorem dX8_goes_67 : decode cX8_goes 67 = .ok (.iload_n 1, 1) := by decide +kernel
theorem dX8_goes_68 : decode cX8_goes 68 = .ok (.iconst 4, 1) := by decide +kernel
theorem dX8_goes_69 : decode cX8_goes 69 = .ok (.aload_n 0, 1) := by decide +kernel
theorem dX8_goes_70 : decode cX8_goes 70 = .ok (.iload_n 1, 1) := by decide +kernel
theorem dX8_goes_71 : decode cX8_goes 71 = .ok (.iconst 4, 1) := by decide +kernel
theorem dX8_goes_72 : decode cX8_goes 72 = .ok (.invokevirtual 80, 3) := by decide +kernel
theorem dX8_goes_75 : decode cX8_goes 75 = .ok (.aload_n 0, 1) := by decide +kernel
theorem dX8_goes_76 : decode cX8_goes 76 = .ok (.iload_n 1, 1) := by decide +kernel
theorem dX8_goes_77 : decode cX8_goes 77 = .ok (.iconst 5, 1) := by decide +kernel
theorem dX8_goes_78 : decode cX8_goes 78 = .ok (.invokevirtual 80, 3) := by decide +kernel
theorem dX8_goes_81 : decode cX8_goes 81 = .ok (.iadd, 1) := by decide +kernel
theorem dX8_goes_82 : decode cX8_goes 82 = .ok (.invokestatic 104, 3) := by decide +kernel
theorem dX8_goes_85 : decode cX8_goes 85 = .ok (.invokevirtual 88, 3) := by decide +kernel
theorem dX8_goes_88 : decode cX8_goes 88 = .ok (.return_, 1) := by decide +kernel
set_option maxRecDepth 20000 in
theorem ggX8_hoists_X8_of : GoodIn wsX8_hoists wsX8_of := goodIn_r _ [6, 1, 14, 15, 16, 17, 18, 19, 20, 21, 22] (by decide +kernel) (by decide +kernel)
set_option maxRecDepth 20000 in
theorem gX8_hoists_X8_of : GoodIn wsX8_hoists (wsV RX8 80 RX8 yX8_of wsX8_of) := goodIn_app (goodIn_of _ (by decide +kernel)) ggX8_hoists_X8_of
set_option maxRecDepth 20000 in
theorem ggX8_hoists_X8_size : GoodIn wsX8_hoists wsX8_size := goodIn_r _ [9] (by decide +kernel) (by decide +kernel)
set_option maxRecDepth 20000 in
theorem gX8_hoists_X8_size : GoodIn wsX8_hoists (va_wsS RX8 84 yX8_size wsX8_size) := goodIn_app (goodIn_of _ (by decide +kernel)) ggX8_hoists_X8_size
set_option maxRecDepth 20000 in
theorem ggX8_hoists_X8_tells : GoodIn wsX8_hoists wsX8_tells := goodIn_r _ [13, 1, 14, 15, 16, 17, 18, 19, 20, 21, 22] (by decide +kernel) (by decide +kernel)
set_option maxRecDepth 20000 in
theorem gX8_hoists_X8_tells : GoodIn wsX8_hoists (wsV RX8 88 RX8 yX8_tells wsX8_tells) := goodIn_app (goodIn_of _ (by decide +kernel)) ggX8_hoists_X8_tells
theorem dX8_hoists_0 : decode cX8_hoists 0 = .ok (.aload_n 0, 1) := by decide +kernel
theorem dX8_hoists_1 : decode cX8_hoists 1 = .ok (.iload_n 1, 1) := by decide +kernel
theorem dX8_hoists_2 : decode cX8_hoists 2 = .ok (.iconst 2, 1) := by decide +kernel
theorem dX8_hoists_3 : decode cX8_hoists 3 = .ok (.invokevirtual 80, 3) := by decide +kernel
theorem dX8_hoists_6 : decode cX8_hoists 6 = .ok (.istore_n 2, 1) := by decide +kernel
theorem dX8_hoists_7 : decode cX8_hoists 7 = .ok (.aload_n 0, 1) := by decide +kernel
theorem dX8_hoists_8 : decode cX8_hoists 8 = .ok (.iload_n 1, 1) := by decide +kernel
theorem dX8_hoists_9 : decode cX8_hoists 9 = .ok (.bipush 7, 2) := by decide +kernel
theorem dX8_hoists_11 : decode cX8_hoists 11 = .ok (.invokevirtual 80, 3) := by decide +kernel
theorem dX8_hoists_14 : decode cX8_hoists 14 = .ok (.istore_n 3, 1) := by decide +kernel
theorem dX8_hoists_15 : decode cX8_hoists 15 = .ok (.iload_n 3, 1) := by decide +kernel
theorem dX8_hoists_16 : decode cX8_hoists 16 = .ok (.iload_n 2, 1) := by decide +kernel
theorem dX8_hoists_17 : decode cX8_hoists 17 = .ok (.if_icmp .eq 21, 3) := by decide +kernel
theorem dX8_hoists_20 : decode cX8_hoists 20 = .ok (.aload_n 0, 1) := by decide +kernel
theorem dX8_hoists_21 : decode cX8_hoists 21 = .ok (.iload_n 1, 1) := by decide +kernel
theorem dX8_hoists_22 : decode cX8_hoists 22 = .ok (.iconst 1, 1) := by decide +kernel
theorem dX8_hoists_23 : decode cX8_hoists 23 = .ok (.invokevirtual 80, 3) := by decide +kernel
theorem dX8_hoists_26 : decode cX8_hoists 26 = .ok (.invokestatic 84, 3) := by decide +kernel
theorem dX8_hoists_29 : decode cX8_hoists 29 = .ok (.aload_n 0, 1) := by decide +kernel
theorem dX8_hoists_30 : decode cX8_hoists 30 = .ok (.getfield 7, 3) := by decide +kernel
theorem dX8_hoists_33 : decode cX8_hoists 33 = .ok (.iconst 4, 1) := by decide +kernel
theorem dX8_hoists_34 : decode cX8_hoists 34 = .ok (.iaload, 1) := by decide +kernel
theorem dX8_hoists_35 : decode cX8_hoists 35 = .ok (.if_icmp .le 4, 3) := by decide +kernel
theorem dX8_hoists_38 : decode cX8_hoists 38 = .ok (.return_, 1) := by decide +kernel
theorem dX8_hoists_39 : decode cX8_hoists 39 = .ok (.iload_n 3, 1) := by decide +kernel
theorem dX8_hoists_40 : decode cX8_hoists 40 = .ok (.iload_n 2, 1) := by decide +kernel
theorem dX8_hoists_41 : decode cX8_hoists 41 = .ok (.if_icmp .le 9, 3) := by decide +kernel
theorem dX8_hoists_44 : decode cX8_hoists 44 = .ok (.iload_n 2, 1) := by decide +kernel
theorem dX8_hoists_45 : decode cX8_hoists 45 = .ok (.iconst 1, 1) := by decide +kernel
theorem dX8_hoists_46 : decode cX8_hoists 46 = .ok (.iadd, 1) := by decide +kernel
theorem dX8_hoists_47 : decode cX8_hoists 47 = .ok (.goto 6, 3) := by decide +kernel
theorem dX8_hoists_50 : decode cX8_hoists 50 = .ok (.iload_n 2, 1) := by decide +kernel
theorem dX8_hoists_51 : decode cX8_hoists 51 = .ok (.iconst 1, 1) := by decide +kernel
theorem dX8_hoists_52 : decode cX8_hoists 52 = .ok (.isub, 1) := by decide +kernel
theorem dX8_hoists_53 : decode cX8_hoists 53 = .ok (.istore 4, 2) := by decide +kernel
theorem dX8_hoists_55 : decode cX8_hoists 55 = .ok (.aload_n 0, 1) := by decide +kernel
theorem dX8_hoists_56 : decode cX8_hoists 56 = .ok (.iconst 1, 1) := by decide +kernel
theorem dX8_hoists_57 : decode cX8_hoists 57 = .ok (.iload_n 1, 1) := by decide +kernel
theorem dX8_hoists_58 : decode cX8_hoists 58 = .ok (.isub, 1) := by decide +kernel
theorem dX8_hoists_59 : decode cX8_hoists 59 = .ok (.iconst 2, 1) := by decide +kernel
theorem dX8_hoists_60 : decode cX8_hoists 60 = .ok (.invokevirtual 80, 3) := by decide +kernel
theorem dX8_hoists_63 : decode cX8_hoists 63 = .ok (.istore 5, 2) := by decide +kernel
theorem dX8_hoists_65 : decode cX8_hoists 65 = .ok (.aload_n 0, 1) := by decide +kernel
theorem dX8_hoists_66 : decode cX8_hoists 66 = .ok (.getfield 7, 3) := by decide +kernel
theorem dX8_hoists_69 : decode cX8_hoists 69 = .ok (.iconst 5, 1) := by decide +kernel
theorem dX8_hoists_70 : decode cX8_hoists 70 = .ok (.iaload, 1) := by decide +kernel
theorem dX8_hoists_71 : decode cX8_hoists 71 = .ok (.bipush (-4), 2) := by decide +kernel
theorem dX8_hoists_73 : decode cX8_hoists 73 = .ok (.if_icmp .eq 42, 3) := by decide +kernel
theorem dX8_hoists_76 : decode cX8_hoists 76 = .ok (.iload 4, 2) := by decide +kernel
theorem dX8_hoists_78 : decode cX8_hoists 78 = .ok (.iload 5, 2) := by decide +kernel
theorem dX8_hoists_80 : decode cX8_hoists 80 = .ok (.isub, 1) := by decide +kernel
theorem dX8_hoists_81 : decode cX8_hoists 81 = .ok (.invokestatic 84, 3) := by decide +kernel
theorem dX8_hoists_84 : decode cX8_hoists 84 = .ok (.aload_n 0, 1) := by decide +kernel
theorem dX8_hoists_85 : decode cX8_hoists 85 = .ok (.getfield 7, 3) := by decide +kernel
theorem dX8_hoists_88 : decode cX8_hoists 88 = .ok (.iconst 5, 1) := by decide +kernel
theorem dX8_hoists_89 : decode cX8_hoists 89 = .ok (.iaload, 1) := by decide +kernel
theorem dX8_hoists_90 : decode cX8_hoists 90 = .ok (.if_icmp .le 25, 3) := by decide +kernel
theorem dX8_hoists_93 : decode cX8_hoists 93 = .ok (.iload 4, 2) := by decide +kernel
theorem dX8_hoists_95 : decode cX8_hoists 95 = .ok (.iload 5, 2) := by decide +kernel
theorem dX8_hoists_97 : decode cX8_hoists 97 = .ok (.isub, 1) := by decide +kernel
theorem dX8_hoists_98 : decode cX8_hoists 98 = .ok (.invokestatic 84, 3) := by decide +kernel
theorem dX8_hoists_101 : decode cX8_hoists 101 = .ok (.iload_n 2, 1) := by decide +kernel
theorem dX8_hoists_102 : decode cX8_hoists 102 = .ok (.iload 5, 2) := by decide +kernel
theorem dX8_hoists_104 : decode cX8_hoists 104 = .ok (.isub, 1) := by decide +kernel
theorem dX8_hoists_105 : decode cX8_hoists 105 = .ok (.invokestatic 84, 3) := by decide +kernel
theorem dX8_hoists_108 : decode cX8_hoists 108 = .ok (.if_icmp .le 7, 3) := by decide +kernel
theorem dX8_hoists_111 : decode cX8_hoists 111 = .ok (.iconst 1, 1) := by decide +kernel
theorem dX8_hoists_112 : decode cX8_hoists 112 = .ok (.goto 4, 3) := by decide +kernel
theorem dX8_hoists_115 : decode cX8_hoists 115 = .ok (.iconst 0, 1) := by decide +kernel
theorem dX8_hoists_116 : decode cX8_hoists 116 = .ok (.istore 6, 2) := by decide +kernel
theorem dX8_hoists_118 : decode cX8_hoists 118 = .ok (.iload 6, 2) := by decide +kernel
theorem dX8_hoists_120 : decode cX8_hoists 120 = .ok (.ifCond .ne 11, 3) := by decide +kernel
theorem dX8_hoists_123 : decode cX8_hoists 123 = .ok (.aload_n 0, 1) := by decide +kernel
theorem dX8_hoists_124 : decode cX8_hoists 124 = .ok (.iload_n 1, 1) := by decide +kernel
theorem dX8_hoists_125 : decode cX8_hoists 125 = .ok (.iconst 2, 1) := by decide +kernel
theorem dX8_hoists_126 : decode cX8_hoists 126 = .ok (.iload 4, 2) := by decide +kernel
theorem dX8_hoists_128 : decode cX8_hoists 128 = .ok (.invokevirtual 88, 3) := by decide +kernel
theorem dX8_hoists_131 : decode cX8_hoists 131 = .ok (.return_, 1) := by decide +kernel
set_option maxRecDepth 20000 in
theorem ggX8_goesBy_X8_stepsCome : GoodIn wsX8_goesBy wsX8_stepsCome := goodIn_r _ [6, 1, 7, 8, 9, 5, 10, 11, 12, 13, 14, 53, 54, 55, 56, 57, 58, 59, 60, 61] (by decide +kernel) (by decide +kernel)
set_option maxRecDepth 20000 in
theorem gX8_goesBy_X8_stepsCome : GoodIn wsX8_goesBy (wsV RX8 107 RX8 yX8_stepsCome wsX8_stepsCome) := goodIn_app (goodIn_of _ (by decide +kernel)) ggX8_goesBy_X8_stepsCome
set_option maxRecDepth 20000 in
theorem ggX8_goesBy_X8_wanted : GoodIn wsX8_goesBy wsX8_wanted := goodIn_r _ [18, 1, 19, 20, 21, 5, 22, 7, 8, 9, 10, 53, 54, 55, 56, 57, 58, 59, 60, 61] (by decide +kernel) (by decide +kernel)
set_option maxRecDepth 20000 in
theorem gX8_goesBy_X8_wanted : GoodIn wsX8_goesBy (wsV RX8 111 RX8 yX8_wanted wsX8_wanted) := goodIn_app (goodIn_of _ (by decide +kernel)) ggX8_goesBy_X8_wanted
set_option maxRecDepth 20000 in
theorem ggX8_goesBy_X8_braked : GoodIn wsX8_goesBy wsX8_braked := goodIn_r _ [26, 27, 28, 29, 5, 30, 1, 31, 32, 33, 34, 7, 8, 9, 10, 35, 36, 37, 38, 39, 40, 41, 53, 54, 55, 56, 57, 58, 59, 60, 61] (by decide +kernel) (by decide +kernel)
set_option maxRecDepth 20000 in
theorem gX8_goesBy_X8_braked : GoodIn wsX8_goesBy (wsV RX8 114 RX8 yX8_braked wsX8_braked) := goodIn_app (goodIn_of _ (by decide +kernel)) ggX8_goesBy_X8_braked
set_option maxRecDepth 20000 in
theorem ggX8_goesBy_X8_goes : GoodIn wsX8_goesBy wsX8_goes := goodIn_r _ [45, 7, 8, 9, 5, 10, 1, 11, 12, 13, 14, 46, 47, 48, 53, 54, 55, 56, 57, 58, 59, 60, 61] (by decide +kernel) (by decide +kernel)
set_option maxRecDepth 20000 in
theorem gX8_goesBy_X8_goes : GoodIn wsX8_goesBy (wsV RX8 117 RX8 yX8_goes wsX8_goes) := goodIn_app (goodIn_of _ (by decide +kernel)) ggX8_goesBy_X8_goes
set_option maxRecDepth 20000 in
theorem ggX8_goesBy_X8_hoists : GoodIn wsX8_goesBy wsX8_hoists := goodIn_r _ [52, 1, 7, 8, 9, 5, 10, 39, 40, 41, 11, 12, 13, 14, 53, 54, 55, 56, 57, 58, 59, 60, 61] (by decide +kernel) (by decide +kernel)
set_option maxRecDepth 20000 in
theorem gX8_goesBy_X8_hoists : GoodIn wsX8_goesBy (wsV RX8 121 RX8 yX8_hoists wsX8_hoists) := goodIn_app (goodIn_of _ (by decide +kernel)) ggX8_goesBy_X8_hoists
theorem dX8_goesBy_0 : decode cX8_goesBy 0 = .ok (.aload_n 0, 1) := by decide +kernel
theorem dX8_goesBy_1 : decode cX8_goesBy 1 = .ok (.getfield 7, 3) := by decide +kernel
theorem dX8_goesBy_4 : decode cX8_goesBy 4 = .ok (.bipush 6, 2) := by decide +kernel
theorem dX8_goesBy_6 : decode cX8_goesBy 6 = .ok (.dup2, 1) := by decide +kernel
theorem dX8_goesBy_7 : decode cX8_goesBy 7 = .ok (.iaload, 1) := by decide +kernel
theorem dX8_goesBy_8 : decode cX8_goesBy 8 = .ok (.iconst 1, 1) := by decide +kernel
theorem dX8_goesBy_9 : decode cX8_goesBy 9 = .ok (.iadd, 1) := by decide +kernel
theorem dX8_goesBy_10 : decode cX8_goesBy 10 = .ok (.iastore, 1) := by decide +kernel
theorem dX8_goesBy_11 : decode cX8_goesBy 11 = .ok (.aload_n 0, 1) := by decide +kernel
theorem dX8_goesBy_12 : decode cX8_goesBy 12 = .ok (.iconst 0, 1) := by decide +kernel
theorem dX8_goesBy_13 : decode cX8_goesBy 13 = .ok (.invokevirtual 107, 3) := by decide +kernel
theorem dX8_goesBy_16 : decode cX8_goesBy 16 = .ok (.aload_n 0, 1) := by decide +kernel
theorem dX8_goesBy_17 : decode cX8_goesBy 17 = .ok (.iconst 1, 1) := by decide +kernel
theorem dX8_goesBy_18 : decode cX8_goesBy 18 = .ok (.invokevirtual 107, 3) := by decide +kernel
theorem dX8_goesBy_21 : decode cX8_goesBy 21 = .ok (.aload_n 0, 1) := by decide +kernel
theorem dX8_goesBy_22 : decode cX8_goesBy 22 = .ok (.iconst 0, 1) := by decide +kernel
theorem dX8_goesBy_23 : decode cX8_goesBy 23 = .ok (.invokevirtual 111, 3) := by decide +kernel
theorem dX8_goesBy_26 : decode cX8_goesBy 26 = .ok (.istore_n 1, 1) := by decide +kernel
theorem dX8_goesBy_27 : decode cX8_goesBy 27 = .ok (.aload_n 0, 1) := by decide +kernel
theorem dX8_goesBy_28 : decode cX8_goesBy 28 = .ok (.iconst 1, 1) := by decide +kernel
theorem dX8_goesBy_29 : decode cX8_goesBy 29 = .ok (.invokevirtual 111, 3) := by decide +kernel
theorem dX8_goesBy_32 : decode cX8_goesBy 32 = .ok (.istore_n 2, 1) := by decide +kernel
theorem dX8_goesBy_33 : decode cX8_goesBy 33 = .ok (.aload_n 0, 1) := by decide +kernel
theorem dX8_goesBy_34 : decode cX8_goesBy 34 = .ok (.iconst 0, 1) := by decide +kernel
theorem dX8_goesBy_35 : decode cX8_goesBy 35 = .ok (.iload_n 1, 1) := by decide +kernel
theorem dX8_goesBy_36 : decode cX8_goesBy 36 = .ok (.invokevirtual 114, 3) := by decide +kernel
theorem dX8_goesBy_39 : decode cX8_goesBy 39 = .ok (.istore_n 3, 1) := by decide +kernel
theorem dX8_goesBy_40 : decode cX8_goesBy 40 = .ok (.aload_n 0, 1) := by decide +kernel
theorem dX8_goesBy_41 : decode cX8_goesBy 41 = .ok (.iconst 1, 1) := by decide +kernel
theorem dX8_goesBy_42 : decode cX8_goesBy 42 = .ok (.iload_n 2, 1) := by decide +kernel
theorem dX8_goesBy_43 : decode cX8_goesBy 43 = .ok (.invokevirtual 114, 3) := by decide +kernel
theorem dX8_goesBy_46 : decode cX8_goesBy 46 = .ok (.istore 4, 2) := by decide +kernel
theorem dX8_goesBy_48 : decode cX8_goesBy 48 = .ok (.aload_n 0, 1) := by decide +kernel
theorem dX8_goesBy_49 : decode cX8_goesBy 49 = .ok (.iconst 0, 1) := by decide +kernel
theorem dX8_goesBy_50 : decode cX8_goesBy 50 = .ok (.iload_n 3, 1) := by decide +kernel
theorem dX8_goesBy_51 : decode cX8_goesBy 51 = .ok (.invokevirtual 117, 3) := by decide +kernel
theorem dX8_goesBy_54 : decode cX8_goesBy 54 = .ok (.aload_n 0, 1) := by decide +kernel
theorem dX8_goesBy_55 : decode cX8_goesBy 55 = .ok (.iconst 1, 1) := by decide +kernel
theorem dX8_goesBy_56 : decode cX8_goesBy 56 = .ok (.iload 4, 2) := by decide +kernel
theorem dX8_goesBy_58 : decode cX8_goesBy 58 = .ok (.invokevirtual 117, 3) := by decide +kernel
theorem dX8_goesBy_61 : decode cX8_goesBy 61 = .ok (.aload_n 0, 1) := by decide +kernel
theorem dX8_goesBy_62 : decode cX8_goesBy 62 = .ok (.iconst 0, 1) := by decide +kernel
theorem dX8_goesBy_63 : decode cX8_goesBy 63 = .ok (.invokevirtual 121, 3) := by decide +kernel
theorem dX8_goesBy_66 : decode cX8_goesBy 66 = .ok (.aload_n 0, 1) := by decide +kernel
theorem dX8_goesBy_67 : decode cX8_goesBy 67 = .ok (.iconst 1, 1) := by decide +kernel
theorem dX8_goesBy_68 : decode cX8_goesBy 68 = .ok (.invokevirtual 121, 3) := by decide +kernel
theorem dX8_goesBy_71 : decode cX8_goesBy 71 = .ok (.iload_n 3, 1) := by decide +kernel
theorem dX8_goesBy_72 : decode cX8_goesBy 72 = .ok (.iload_n 1, 1) := by decide +kernel
theorem dX8_goesBy_73 : decode cX8_goesBy 73 = .ok (.if_icmp .eq 7, 3) := by decide +kernel
theorem dX8_goesBy_76 : decode cX8_goesBy 76 = .ok (.iconst 1, 1) := by decide +kernel
theorem dX8_goesBy_77 : decode cX8_goesBy 77 = .ok (.goto 4, 3) := by decide +kernel
theorem dX8_goesBy_80 : decode cX8_goesBy 80 = .ok (.iconst 0, 1) := by decide +kernel
theorem dX8_goesBy_81 : decode cX8_goesBy 81 = .ok (.iload 4, 2) := by decide +kernel
theorem dX8_goesBy_83 : decode cX8_goesBy 83 = .ok (.iload_n 2, 1) := by decide +kernel
theorem dX8_goesBy_84 : decode cX8_goesBy 84 = .ok (.if_icmp .eq 7, 3) := by decide +kernel
theorem dX8_goesBy_87 : decode cX8_goesBy 87 = .ok (.iconst 2, 1) := by decide +kernel
theorem dX8_goesBy_88 : decode cX8_goesBy 88 = .ok (.goto 4, 3) := by decide +kernel
theorem dX8_goesBy_91 : decode cX8_goesBy 91 = .ok (.iconst 0, 1) := by decide +kernel
theorem dX8_goesBy_92 : decode cX8_goesBy 92 = .ok (.iadd, 1) := by decide +kernel
theorem dX8_goesBy_93 : decode cX8_goesBy 93 = .ok (.ireturn, 1) := by decide +kernel
theorem dX8_spotPlace_0 : decode cX8_spotPlace 0 = .ok (.bipush 33, 2) := by decide +kernel
theorem dX8_spotPlace_2 : decode cX8_spotPlace 2 = .ok (.sipush 241, 3) := by decide +kernel
theorem dX8_spotPlace_5 : decode cX8_spotPlace 5 = .ok (.iload_n 0, 1) := by decide +kernel
theorem dX8_spotPlace_6 : decode cX8_spotPlace 6 = .ok (.imul, 1) := by decide +kernel
theorem dX8_spotPlace_7 : decode cX8_spotPlace 7 = .ok (.iadd, 1) := by decide +kernel
theorem dX8_spotPlace_8 : decode cX8_spotPlace 8 = .ok (.ireturn, 1) := by decide +kernel
set_option maxRecDepth 20000 in
theorem ggX8_spotCode_X8_of : GoodIn wsX8_spotCode wsX8_of := goodIn_r _ [5, 6, 7, 8, 9, 10, 11, 12, 13, 14, 15] (by decide +kernel) (by decide +kernel)
set_option maxRecDepth 20000 in
theorem gX8_spotCode_X8_of : GoodIn wsX8_spotCode (wsV RX8 80 RX8 yX8_of wsX8_of) := goodIn_app (goodIn_of _ (by decide +kernel)) ggX8_spotCode_X8_of
theorem dX8_spotCode_0 : decode cX8_spotCode 0 = .ok (.bipush 100, 2) := by decide +kernel
theorem dX8_spotCode_2 : decode cX8_spotCode 2 = .ok (.aload_n 0, 1) := by decide +kernel
theorem dX8_spotCode_3 : decode cX8_spotCode 3 = .ok (.iload_n 1, 1) := by decide +kernel
theorem dX8_spotCode_4 : decode cX8_spotCode 4 = .ok (.iconst 0, 1) := by decide +kernel
theorem dX8_spotCode_5 : decode cX8_spotCode 5 = .ok (.invokevirtual 80, 3) := by decide +kernel
theorem dX8_spotCode_8 : decode cX8_spotCode 8 = .ok (.bipush 50, 2) := by decide +kernel
theorem dX8_spotCode_10 : decode cX8_spotCode 10 = .ok (.idiv, 1) := by decide +kernel
theorem dX8_spotCode_11 : decode cX8_spotCode 11 = .ok (.imul, 1) := by decide +kernel
theorem dX8_spotCode_12 : decode cX8_spotCode 12 = .ok (.aload_n 0, 1) := by decide +kernel
theorem dX8_spotCode_13 : decode cX8_spotCode 13 = .ok (.iload_n 1, 1) := by decide +kernel
theorem dX8_spotCode_14 : decode cX8_spotCode 14 = .ok (.iconst 2, 1) := by decide +kernel
theorem dX8_spotCode_15 : decode cX8_spotCode 15 = .ok (.invokevirtual 80, 3) := by decide +kernel
theorem dX8_spotCode_18 : decode cX8_spotCode 18 = .ok (.bipush 10, 2) := by decide +kernel
theorem dX8_spotCode_20 : decode cX8_spotCode 20 = .ok (.idiv, 1) := by decide +kernel
theorem dX8_spotCode_21 : decode cX8_spotCode 21 = .ok (.iadd, 1) := by decide +kernel
theorem dX8_spotCode_22 : decode cX8_spotCode 22 = .ok (.ireturn, 1) := by decide +kernel
set_option maxRecDepth 20000 in
theorem ggX8_spotIndex_X8_spotPlace : GoodIn wsX8_spotIndex wsX8_spotPlace := goodIn_r _ [5] (by decide +kernel) (by decide +kernel)
set_option maxRecDepth 20000 in
theorem gX8_spotIndex_X8_spotPlace : GoodIn wsX8_spotIndex (va_wsS RX8 124 yX8_spotPlace wsX8_spotPlace) := goodIn_app (goodIn_of _ (by decide +kernel)) ggX8_spotIndex_X8_spotPlace
theorem dX8_spotIndex_0 : decode cX8_spotIndex 0 = .ok (.iload_n 1, 1) := by decide +kernel
theorem dX8_spotIndex_1 : decode cX8_spotIndex 1 = .ok (.invokestatic 124, 3) := by decide +kernel
theorem dX8_spotIndex_4 : decode cX8_spotIndex 4 = .ok (.istore_n 3, 1) := by decide +kernel
theorem dX8_spotIndex_5 : decode cX8_spotIndex 5 = .ok (.iconst 0, 1) := by decide +kernel
theorem dX8_spotIndex_6 : decode cX8_spotIndex 6 = .ok (.istore 4, 2) := by decide +kernel
theorem dX8_spotIndex_8 : decode cX8_spotIndex 8 = .ok (.iload 4, 2) := by decide +kernel
theorem dX8_spotIndex_10 : decode cX8_spotIndex 10 = .ok (.aload_n 0, 1) := by decide +kernel
theorem dX8_spotIndex_11 : decode cX8_spotIndex 11 = .ok (.getfield 7, 3) := by decide +kernel
theorem dX8_spotIndex_14 : decode cX8_spotIndex 14 = .ok (.iload_n 3, 1) := by decide +kernel
theorem dX8_spotIndex_15 : decode cX8_spotIndex 15 = .ok (.iaload, 1) := by decide +kernel
theorem dX8_spotIndex_16 : decode cX8_spotIndex 16 = .ok (.if_icmp .ge 24, 3) := by decide +kernel
theorem dX8_spotIndex_19 : decode cX8_spotIndex 19 = .ok (.aload_n 0, 1) := by decide +kernel
theorem dX8_spotIndex_20 : decode cX8_spotIndex 20 = .ok (.getfield 7, 3) := by decide +kernel
theorem dX8_spotIndex_23 : decode cX8_spotIndex 23 = .ok (.iload_n 3, 1) := by decide +kernel
theorem dX8_spotIndex_24 : decode cX8_spotIndex 24 = .ok (.iconst 1, 1) := by decide +kernel
theorem dX8_spotIndex_25 : decode cX8_spotIndex 25 = .ok (.iadd, 1) := by decide +kernel
theorem dX8_spotIndex_26 : decode cX8_spotIndex 26 = .ok (.iload 4, 2) := by decide +kernel
theorem dX8_spotIndex_28 : decode cX8_spotIndex 28 = .ok (.iadd, 1) := by decide +kernel
theorem dX8_spotIndex_29 : decode cX8_spotIndex 29 = .ok (.iaload, 1) := by decide +kernel
theorem dX8_spotIndex_30 : decode cX8_spotIndex 30 = .ok (.iload_n 2, 1) := by decide +kernel
theorem dX8_spotIndex_31 : decode cX8_spotIndex 31 = .ok (.if_icmp .eq 9, 3) := by decide +kernel
theorem dX8_spotIndex_34 : decode cX8_spotIndex 34 = .ok (.iinc 4 1, 3) := by decide +kernel
theorem dX8_spotIndex_37 : decode cX8_spotIndex 37 = .ok (.goto (-29), 3) := by decide +kernel
theorem dX8_spotIndex_40 : decode cX8_spotIndex 40 = .ok (.iload 4, 2) := by decide +kernel
theorem dX8_spotIndex_42 : decode cX8_spotIndex 42 = .ok (.ireturn, 1) := by decide +kernel
set_option maxRecDepth 20000 in
theorem ggX8_counts_X8_spotPlace : GoodIn wsX8_counts wsX8_spotPlace := goodIn_r _ [5] (by decide +kernel) (by decide +kernel)
set_option maxRecDepth 20000 in
theorem gX8_counts_X8_spotPlace : GoodIn wsX8_counts (va_wsS RX8 124 yX8_spotPlace wsX8_spotPlace) := goodIn_app (goodIn_of _ (by decide +kernel)) ggX8_counts_X8_spotPlace
set_option maxRecDepth 20000 in
theorem ggX8_counts_X8_spotCode : GoodIn wsX8_counts wsX8_spotCode := goodIn_r _ [9, 10, 11, 12, 4, 13, 1, 18, 19, 20, 21, 22, 23, 24, 25, 26] (by decide +kernel) (by decide +kernel)
set_option maxRecDepth 20000 in
theorem gX8_counts_X8_spotCode : GoodIn wsX8_counts (wsV RX8 127 RX8 yX8_spotCode wsX8_spotCode) := goodIn_app (goodIn_of _ (by decide +kernel)) ggX8_counts_X8_spotCode
set_option maxRecDepth 20000 in
theorem ggX8_counts_X8_spotIndex : GoodIn wsX8_counts wsX8_spotIndex := goodIn_r _ [17, 1, 2, 3, 4, 5, 18, 19, 20, 21, 22, 23, 24, 25, 26] (by decide +kernel) (by decide +kernel)
set_option maxRecDepth 20000 in
theorem gX8_counts_X8_spotIndex : GoodIn wsX8_counts (wsV RX8 130 RX8 yX8_spotIndex wsX8_spotIndex) := goodIn_app (goodIn_of _ (by decide +kernel)) ggX8_counts_X8_spotIndex
theorem dX8_counts_0 : decode cX8_counts 0 = .ok (.iload_n 1, 1) := by decide +kernel
theorem dX8_counts_1 : decode cX8_counts 1 = .ok (.invokestatic 124, 3) := by decide +kernel
theorem dX8_counts_4 : decode cX8_counts 4 = .ok (.istore_n 2, 1) := by decide +kernel
theorem dX8_counts_5 : decode cX8_counts 5 = .ok (.aload_n 0, 1) := by decide +kernel
theorem dX8_counts_6 : decode cX8_counts 6 = .ok (.iload_n 1, 1) := by decide +kernel
theorem dX8_counts_7 : decode cX8_counts 7 = .ok (.invokevirtual 127, 3) := by decide +kernel
theorem dX8_counts_10 : decode cX8_counts 10 = .ok (.istore_n 3, 1) := by decide +kernel
theorem dX8_counts_11 : decode cX8_counts 11 = .ok (.aload_n 0, 1) := by decide +kernel
theorem dX8_counts_12 : decode cX8_counts 12 = .ok (.iload_n 1, 1) := by decide +kernel
theorem dX8_counts_13 : decode cX8_counts 13 = .ok (.iload_n 3, 1) := by decide +kernel
theorem dX8_counts_14 : decode cX8_counts 14 = .ok (.invokevirtual 130, 3) := by decide +kernel
theorem dX8_counts_17 : decode cX8_counts 17 = .ok (.istore 4, 2) := by decide +kernel
theorem dX8_counts_19 : decode cX8_counts 19 = .ok (.iload 4, 2) := by decide +kernel
theorem dX8_counts_21 : decode cX8_counts 21 = .ok (.aload_n 0, 1) := by decide +kernel
theorem dX8_counts_22 : decode cX8_counts 22 = .ok (.getfield 7, 3) := by decide +kernel
theorem dX8_counts_25 : decode cX8_counts 25 = .ok (.iload_n 2, 1) := by decide +kernel
theorem dX8_counts_26 : decode cX8_counts 26 = .ok (.iaload, 1) := by decide +kernel
theorem dX8_counts_27 : decode cX8_counts 27 = .ok (.if_icmp .ne 40, 3) := by decide +kernel
theorem dX8_counts_30 : decode cX8_counts 30 = .ok (.aload_n 0, 1) := by decide +kernel
theorem dX8_counts_31 : decode cX8_counts 31 = .ok (.getfield 7, 3) := by decide +kernel
theorem dX8_counts_34 : decode cX8_counts 34 = .ok (.iload_n 2, 1) := by decide +kernel
theorem dX8_counts_35 : decode cX8_counts 35 = .ok (.iconst 1, 1) := by decide +kernel
theorem dX8_counts_36 : decode cX8_counts 36 = .ok (.iadd, 1) := by decide +kernel
theorem dX8_counts_37 : decode cX8_counts 37 = .ok (.iload 4, 2) := by decide +kernel
theorem dX8_counts_39 : decode cX8_counts 39 = .ok (.iadd, 1) := by decide +kernel
theorem dX8_counts_40 : decode cX8_counts 40 = .ok (.iload_n 3, 1) := by decide +kernel
theorem dX8_counts_41 : decode cX8_counts 41 = .ok (.iastore, 1) := by decide +kernel
theorem dX8_counts_42 : decode cX8_counts 42 = .ok (.aload_n 0, 1) := by decide +kernel
theorem dX8_counts_43 : decode cX8_counts 43 = .ok (.getfield 7, 3) := by decide +kernel
theorem dX8_counts_46 : decode cX8_counts 46 = .ok (.iload_n 2, 1) := by decide +kernel
theorem dX8_counts_47 : decode cX8_counts 47 = .ok (.iconst 1, 1) := by decide +kernel
theorem dX8_counts_48 : decode cX8_counts 48 = .ok (.iadd, 1) := by decide +kernel
theorem dX8_counts_49 : decode cX8_counts 49 = .ok (.bipush 120, 2) := by decide +kernel
theorem dX8_counts_51 : decode cX8_counts 51 = .ok (.iadd, 1) := by decide +kernel
theorem dX8_counts_52 : decode cX8_counts 52 = .ok (.iload 4, 2) := by decide +kernel
theorem dX8_counts_54 : decode cX8_counts 54 = .ok (.iadd, 1) := by decide +kernel
theorem dX8_counts_55 : decode cX8_counts 55 = .ok (.iconst 0, 1) := by decide +kernel
theorem dX8_counts_56 : decode cX8_counts 56 = .ok (.iastore, 1) := by decide +kernel
theorem dX8_counts_57 : decode cX8_counts 57 = .ok (.aload_n 0, 1) := by decide +kernel
theorem dX8_counts_58 : decode cX8_counts 58 = .ok (.getfield 7, 3) := by decide +kernel
theorem dX8_counts_61 : decode cX8_counts 61 = .ok (.iload_n 2, 1) := by decide +kernel
theorem dX8_counts_62 : decode cX8_counts 62 = .ok (.dup2, 1) := by decide +kernel
theorem dX8_counts_63 : decode cX8_counts 63 = .ok (.iaload, 1) := by decide +kernel
theorem dX8_counts_64 : decode cX8_counts 64 = .ok (.iconst 1, 1) := by decide +kernel
theorem dX8_counts_65 : decode cX8_counts 65 = .ok (.iadd, 1) := by decide +kernel
theorem dX8_counts_66 : decode cX8_counts 66 = .ok (.iastore, 1) := by decide +kernel
theorem dX8_counts_67 : decode cX8_counts 67 = .ok (.aload_n 0, 1) := by decide +kernel
theorem dX8_counts_68 : decode cX8_counts 68 = .ok (.getfield 7, 3) := by decide +kernel
theorem dX8_counts_71 : decode cX8_counts 71 = .ok (.iload_n 2, 1) := by decide +kernel
theorem dX8_counts_72 : decode cX8_counts 72 = .ok (.iconst 1, 1) := by decide +kernel
theorem dX8_counts_73 : decode cX8_counts 73 = .ok (.iadd, 1) := by decide +kernel
theorem dX8_counts_74 : decode cX8_counts 74 = .ok (.bipush 120, 2) := by decide +kernel
theorem dX8_counts_76 : decode cX8_counts 76 = .ok (.iadd, 1) := by decide +kernel
theorem dX8_counts_77 : decode cX8_counts 77 = .ok (.iload 4, 2) := by decide +kernel
theorem dX8_counts_79 : decode cX8_counts 79 = .ok (.iadd, 1) := by decide +kernel
theorem dX8_counts_80 : decode cX8_counts 80 = .ok (.dup2, 1) := by decide +kernel
theorem dX8_counts_81 : decode cX8_counts 81 = .ok (.iaload, 1) := by decide +kernel
theorem dX8_counts_82 : decode cX8_counts 82 = .ok (.iconst 1, 1) := by decide +kernel
theorem dX8_counts_83 : decode cX8_counts 83 = .ok (.iadd, 1) := by decide +kernel
theorem dX8_counts_84 : decode cX8_counts 84 = .ok (.iastore, 1) := by decide +kernel
theorem dX8_counts_85 : decode cX8_counts 85 = .ok (.return_, 1) := by decide +kernel
set_option maxRecDepth 20000 in
theorem ggX8_tick_X8_in : GoodIn wsX8_tick wsX8_in := goodIn_r _ [5] (by decide +kernel) (by decide +kernel)
set_option maxRecDepth 20000 in
theorem gX8_tick_X8_in : GoodIn wsX8_tick (va_wsS RX8 48 yX8_in wsX8_in) := goodIn_app (goodIn_of _ (by decide +kernel)) ggX8_tick_X8_in
set_option maxRecDepth 20000 in
theorem ggX8_tick_X8_keeps : GoodIn wsX8_tick wsX8_keeps := goodIn_r _ [9, 10, 11, 1, 81, 82, 83, 84, 85, 86, 87, 88, 89] (by decide +kernel) (by decide +kernel)
set_option maxRecDepth 20000 in
theorem gX8_tick_X8_keeps : GoodIn wsX8_tick (wsV RX8 133 RX8 yX8_keeps wsX8_keeps) := goodIn_app (goodIn_of _ (by decide +kernel)) ggX8_tick_X8_keeps
set_option maxRecDepth 20000 in
theorem ggX8_tick_X8_goesBy : GoodIn wsX8_tick wsX8_goesBy := goodIn_r _ [15, 1, 16, 17, 18, 4, 19, 20, 21, 22, 23, 24, 25, 26, 27, 28, 29, 30, 31, 32, 33, 34, 35, 36, 37, 38, 39, 40, 41, 42, 43, 44, 45, 46, 47, 48, 49, 50, 51, 52, 53, 54, 55, 56, 57, 58, 59, 60, 61, 62, 63, 64, 65, 81, 82, 83, 84, 85, 86, 87, 88, 89] (by decide +kernel) (by decide +kernel)
set_option maxRecDepth 20000 in
theorem gX8_tick_X8_goesBy : GoodIn wsX8_tick (wsV RX8 136 RX8 yX8_goesBy wsX8_goesBy) := goodIn_app (goodIn_of _ (by decide +kernel)) ggX8_tick_X8_goesBy
set_option maxRecDepth 20000 in
theorem ggX8_tick_X8_counts : GoodIn wsX8_tick wsX8_counts := goodIn_r _ [69, 1, 70, 71, 4, 72, 73, 74, 75, 76, 20, 21, 22, 23, 77, 78, 79, 80, 81, 82, 83, 84, 85, 86, 87, 88, 89] (by decide +kernel) (by decide +kernel)
set_option maxRecDepth 20000 in
theorem gX8_tick_X8_counts : GoodIn wsX8_tick (wsV RX8 139 RX8 yX8_counts wsX8_counts) := goodIn_app (goodIn_of _ (by decide +kernel)) ggX8_tick_X8_counts
theorem dX8_tick_0 : decode cX8_tick 0 = .ok (.iload_n 1, 1) := by decide +kernel
theorem dX8_tick_1 : decode cX8_tick 1 = .ok (.iconst 1, 1) := by decide +kernel
theorem dX8_tick_2 : decode cX8_tick 2 = .ok (.bipush 60, 2) := by decide +kernel
theorem dX8_tick_4 : decode cX8_tick 4 = .ok (.invokestatic 48, 3) := by decide +kernel
theorem dX8_tick_7 : decode cX8_tick 7 = .ok (.ifCond .ne 5, 3) := by decide +kernel
theorem dX8_tick_10 : decode cX8_tick 10 = .ok (.iconst (-1), 1) := by decide +kernel
theorem dX8_tick_11 : decode cX8_tick 11 = .ok (.ireturn, 1) := by decide +kernel
theorem dX8_tick_12 : decode cX8_tick 12 = .ok (.aload_n 0, 1) := by decide +kernel
theorem dX8_tick_13 : decode cX8_tick 13 = .ok (.getfield 7, 3) := by decide +kernel
theorem dX8_tick_16 : decode cX8_tick 16 = .ok (.bipush 6, 2) := by decide +kernel
theorem dX8_tick_18 : decode cX8_tick 18 = .ok (.iaload, 1) := by decide +kernel
theorem dX8_tick_19 : decode cX8_tick 19 = .ok (.iload_n 1, 1) := by decide +kernel
theorem dX8_tick_20 : decode cX8_tick 20 = .ok (.iadd, 1) := by decide +kernel
theorem dX8_tick_21 : decode cX8_tick 21 = .ok (.sipush 9999, 3) := by decide +kernel
theorem dX8_tick_24 : decode cX8_tick 24 = .ok (.if_icmp .le 6, 3) := by decide +kernel
theorem dX8_tick_27 : decode cX8_tick 27 = .ok (.bipush (-2), 2) := by decide +kernel
theorem dX8_tick_29 : decode cX8_tick 29 = .ok (.ireturn, 1) := by decide +kernel
theorem dX8_tick_30 : decode cX8_tick 30 = .ok (.aload_n 0, 1) := by decide +kernel
theorem dX8_tick_31 : decode cX8_tick 31 = .ok (.invokevirtual 133, 3) := by decide +kernel
theorem dX8_tick_34 : decode cX8_tick 34 = .ok (.iconst 0, 1) := by decide +kernel
theorem dX8_tick_35 : decode cX8_tick 35 = .ok (.istore_n 2, 1) := by decide +kernel
theorem dX8_tick_36 : decode cX8_tick 36 = .ok (.iconst 0, 1) := by decide +kernel
theorem dX8_tick_37 : decode cX8_tick 37 = .ok (.istore_n 3, 1) := by decide +kernel
theorem dX8_tick_38 : decode cX8_tick 38 = .ok (.iload_n 3, 1) := by decide +kernel
theorem dX8_tick_39 : decode cX8_tick 39 = .ok (.iload_n 1, 1) := by decide +kernel
theorem dX8_tick_40 : decode cX8_tick 40 = .ok (.if_icmp .ge 37, 3) := by decide +kernel
theorem dX8_tick_43 : decode cX8_tick 43 = .ok (.aload_n 0, 1) := by decide +kernel
theorem dX8_tick_44 : decode cX8_tick 44 = .ok (.invokevirtual 136, 3) := by decide +kernel
theorem dX8_tick_47 : decode cX8_tick 47 = .ok (.istore 4, 2) := by decide +kernel
theorem dX8_tick_49 : decode cX8_tick 49 = .ok (.aload_n 0, 1) := by decide +kernel
theorem dX8_tick_50 : decode cX8_tick 50 = .ok (.iconst 0, 1) := by decide +kernel
theorem dX8_tick_51 : decode cX8_tick 51 = .ok (.invokevirtual 139, 3) := by decide +kernel
theorem dX8_tick_54 : decode cX8_tick 54 = .ok (.aload_n 0, 1) := by decide +kernel
theorem dX8_tick_55 : decode cX8_tick 55 = .ok (.iconst 1, 1) := by decide +kernel
theorem dX8_tick_56 : decode cX8_tick 56 = .ok (.invokevirtual 139, 3) := by decide +kernel
theorem dX8_tick_59 : decode cX8_tick 59 = .ok (.iload_n 2, 1) := by decide +kernel
theorem dX8_tick_60 : decode cX8_tick 60 = .ok (.iload 4, 2) := by decide +kernel
theorem dX8_tick_62 : decode cX8_tick 62 = .ok (.iconst 1, 1) := by decide +kernel
theorem dX8_tick_63 : decode cX8_tick 63 = .ok (.iand, 1) := by decide +kernel
theorem dX8_tick_64 : decode cX8_tick 64 = .ok (.iload 4, 2) := by decide +kernel
theorem dX8_tick_66 : decode cX8_tick 66 = .ok (.iconst 1, 1) := by decide +kernel
theorem dX8_tick_67 : decode cX8_tick 67 = .ok (.ishr, 1) := by decide +kernel
theorem dX8_tick_68 : decode cX8_tick 68 = .ok (.iadd, 1) := by decide +kernel
theorem dX8_tick_69 : decode cX8_tick 69 = .ok (.iadd, 1) := by decide +kernel
theorem dX8_tick_70 : decode cX8_tick 70 = .ok (.istore_n 2, 1) := by decide +kernel
theorem dX8_tick_71 : decode cX8_tick 71 = .ok (.iinc 3 1, 3) := by decide +kernel
theorem dX8_tick_74 : decode cX8_tick 74 = .ok (.goto (-36), 3) := by decide +kernel
theorem dX8_tick_77 : decode cX8_tick 77 = .ok (.iload_n 2, 1) := by decide +kernel
theorem dX8_tick_78 : decode cX8_tick 78 = .ok (.ireturn, 1) := by decide +kernel
theorem dX8_heeds_0 : decode cX8_heeds 0 = .ok (.iload_n 1, 1) := by decide +kernel
theorem dX8_heeds_1 : decode cX8_heeds 1 = .ok (.iload_n 2, 1) := by decide +kernel
theorem dX8_heeds_2 : decode cX8_heeds 2 = .ok (.if_icmp .eq 14, 3) := by decide +kernel
theorem dX8_heeds_5 : decode cX8_heeds 5 = .ok (.aload_n 0, 1) := by decide +kernel
theorem dX8_heeds_6 : decode cX8_heeds 6 = .ok (.getfield 7, 3) := by decide +kernel
theorem dX8_heeds_9 : decode cX8_heeds 9 = .ok (.iconst 5, 1) := by decide +kernel
theorem dX8_heeds_10 : decode cX8_heeds 10 = .ok (.iaload, 1) := by decide +kernel
theorem dX8_heeds_11 : decode cX8_heeds 11 = .ok (.bipush (-4), 2) := by decide +kernel
theorem dX8_heeds_13 : decode cX8_heeds 13 = .ok (.if_icmp .eq 7, 3) := by decide +kernel
theorem dX8_heeds_16 : decode cX8_heeds 16 = .ok (.iconst 1, 1) := by decide +kernel
theorem dX8_heeds_17 : decode cX8_heeds 17 = .ok (.goto 4, 3) := by decide +kernel
theorem dX8_heeds_20 : decode cX8_heeds 20 = .ok (.iconst 0, 1) := by decide +kernel
theorem dX8_heeds_21 : decode cX8_heeds 21 = .ok (.ireturn, 1) := by decide +kernel
set_option maxRecDepth 20000 in
theorem ggX8_addsStep_X8_of : GoodIn wsX8_addsStep wsX8_of := goodIn_r _ [5, 6, 11, 12, 13, 14, 15, 16, 17, 18, 19] (by decide +kernel) (by decide +kernel)
set_option maxRecDepth 20000 in
theorem gX8_addsStep_X8_of : GoodIn wsX8_addsStep (wsV RX8 80 RX8 yX8_of wsX8_of) := goodIn_app (goodIn_of _ (by decide +kernel)) ggX8_addsStep_X8_of
set_option maxRecDepth 20000 in
theorem ggX8_addsStep_X8_tells : GoodIn wsX8_addsStep wsX8_tells := goodIn_r _ [10, 6, 11, 12, 13, 14, 15, 16, 17, 18, 19] (by decide +kernel) (by decide +kernel)
set_option maxRecDepth 20000 in
theorem gX8_addsStep_X8_tells : GoodIn wsX8_addsStep (wsV RX8 88 RX8 yX8_tells wsX8_tells) := goodIn_app (goodIn_of _ (by decide +kernel)) ggX8_addsStep_X8_tells
theorem dX8_addsStep_0 : decode cX8_addsStep 0 = .ok (.iload_n 3, 1) := by decide +kernel
theorem dX8_addsStep_1 : decode cX8_addsStep 1 = .ok (.ifCond .eq 51, 3) := by decide +kernel
theorem dX8_addsStep_4 : decode cX8_addsStep 4 = .ok (.aload_n 0, 1) := by decide +kernel
theorem dX8_addsStep_5 : decode cX8_addsStep 5 = .ok (.iload_n 1, 1) := by decide +kernel
theorem dX8_addsStep_6 : decode cX8_addsStep 6 = .ok (.bipush 8, 2) := by decide +kernel
theorem dX8_addsStep_8 : decode cX8_addsStep 8 = .ok (.invokevirtual 80, 3) := by decide +kernel
theorem dX8_addsStep_11 : decode cX8_addsStep 11 = .ok (.istore 4, 2) := by decide +kernel
theorem dX8_addsStep_13 : decode cX8_addsStep 13 = .ok (.aload_n 0, 1) := by decide +kernel
theorem dX8_addsStep_14 : decode cX8_addsStep 14 = .ok (.iload_n 1, 1) := by decide +kernel
theorem dX8_addsStep_15 : decode cX8_addsStep 15 = .ok (.bipush 9, 2) := by decide +kernel
theorem dX8_addsStep_17 : decode cX8_addsStep 17 = .ok (.iconst 2, 1) := by decide +kernel
theorem dX8_addsStep_18 : decode cX8_addsStep 18 = .ok (.iload 4, 2) := by decide +kernel
theorem dX8_addsStep_20 : decode cX8_addsStep 20 = .ok (.imul, 1) := by decide +kernel
theorem dX8_addsStep_21 : decode cX8_addsStep 21 = .ok (.iadd, 1) := by decide +kernel
theorem dX8_addsStep_22 : decode cX8_addsStep 22 = .ok (.iload_n 2, 1) := by decide +kernel
theorem dX8_addsStep_23 : decode cX8_addsStep 23 = .ok (.invokevirtual 88, 3) := by decide +kernel
theorem dX8_addsStep_26 : decode cX8_addsStep 26 = .ok (.aload_n 0, 1) := by decide +kernel
theorem dX8_addsStep_27 : decode cX8_addsStep 27 = .ok (.iload_n 1, 1) := by decide +kernel
theorem dX8_addsStep_28 : decode cX8_addsStep 28 = .ok (.bipush 9, 2) := by decide +kernel
theorem dX8_addsStep_30 : decode cX8_addsStep 30 = .ok (.iconst 2, 1) := by decide +kernel
theorem dX8_addsStep_31 : decode cX8_addsStep 31 = .ok (.iload 4, 2) := by decide +kernel
theorem dX8_addsStep_33 : decode cX8_addsStep 33 = .ok (.imul, 1) := by decide +kernel
theorem dX8_addsStep_34 : decode cX8_addsStep 34 = .ok (.iadd, 1) := by decide +kernel
theorem dX8_addsStep_35 : decode cX8_addsStep 35 = .ok (.iconst 1, 1) := by decide +kernel
theorem dX8_addsStep_36 : decode cX8_addsStep 36 = .ok (.iadd, 1) := by decide +kernel
theorem dX8_addsStep_37 : decode cX8_addsStep 37 = .ok (.iload_n 3, 1) := by decide +kernel
theorem dX8_addsStep_38 : decode cX8_addsStep 38 = .ok (.invokevirtual 88, 3) := by decide +kernel
theorem dX8_addsStep_41 : decode cX8_addsStep 41 = .ok (.aload_n 0, 1) := by decide +kernel
theorem dX8_addsStep_42 : decode cX8_addsStep 42 = .ok (.iload_n 1, 1) := by decide +kernel
theorem dX8_addsStep_43 : decode cX8_addsStep 43 = .ok (.bipush 8, 2) := by decide +kernel
theorem dX8_addsStep_45 : decode cX8_addsStep 45 = .ok (.iload 4, 2) := by decide +kernel
theorem dX8_addsStep_47 : decode cX8_addsStep 47 = .ok (.iconst 1, 1) := by decide +kernel
theorem dX8_addsStep_48 : decode cX8_addsStep 48 = .ok (.iadd, 1) := by decide +kernel
theorem dX8_addsStep_49 : decode cX8_addsStep 49 = .ok (.invokevirtual 88, 3) := by decide +kernel
theorem dX8_addsStep_52 : decode cX8_addsStep 52 = .ok (.return_, 1) := by decide +kernel
set_option maxRecDepth 20000 in
theorem ggX8_commands_X8_heeds : GoodIn wsX8_commands wsX8_heeds := goodIn_r _ [6, 1, 19, 20, 21, 22, 23, 24, 25, 26, 27] (by decide +kernel) (by decide +kernel)
set_option maxRecDepth 20000 in
theorem gX8_commands_X8_heeds : GoodIn wsX8_commands (wsV RX8 142 RX8 yX8_heeds wsX8_heeds) := goodIn_app (goodIn_of _ (by decide +kernel)) ggX8_commands_X8_heeds
set_option maxRecDepth 20000 in
theorem ggX8_commands_X8_tells : GoodIn wsX8_commands wsX8_tells := goodIn_r _ [10, 1, 19, 20, 21, 22, 23, 24, 25, 26, 27] (by decide +kernel) (by decide +kernel)
set_option maxRecDepth 20000 in
theorem gX8_commands_X8_tells : GoodIn wsX8_commands (wsV RX8 88 RX8 yX8_tells wsX8_tells) := goodIn_app (goodIn_of _ (by decide +kernel)) ggX8_commands_X8_tells
set_option maxRecDepth 20000 in
theorem ggX8_commands_X8_of : GoodIn wsX8_commands wsX8_of := goodIn_r _ [14, 1, 19, 20, 21, 22, 23, 24, 25, 26, 27] (by decide +kernel) (by decide +kernel)
set_option maxRecDepth 20000 in
theorem gX8_commands_X8_of : GoodIn wsX8_commands (wsV RX8 80 RX8 yX8_of wsX8_of) := goodIn_app (goodIn_of _ (by decide +kernel)) ggX8_commands_X8_of
set_option maxRecDepth 20000 in
theorem ggX8_commands_X8_addsStep : GoodIn wsX8_commands wsX8_addsStep := goodIn_r _ [18, 11, 12, 13, 5, 14, 1, 7, 8, 9, 10, 19, 20, 21, 22, 23, 24, 25, 26, 27] (by decide +kernel) (by decide +kernel)
set_option maxRecDepth 20000 in
theorem gX8_commands_X8_addsStep : GoodIn wsX8_commands (wsV RX8 145 RX8 yX8_addsStep wsX8_addsStep) := goodIn_app (goodIn_of _ (by decide +kernel)) ggX8_commands_X8_addsStep
theorem dX8_commands_0 : decode cX8_commands 0 = .ok (.iconst 0, 1) := by decide +kernel
theorem dX8_commands_1 : decode cX8_commands 1 = .ok (.istore 4, 2) := by decide +kernel
theorem dX8_commands_3 : decode cX8_commands 3 = .ok (.iconst 0, 1) := by decide +kernel
theorem dX8_commands_4 : decode cX8_commands 4 = .ok (.istore 5, 2) := by decide +kernel
theorem dX8_commands_6 : decode cX8_commands 6 = .ok (.iload 5, 2) := by decide +kernel
theorem dX8_commands_8 : decode cX8_commands 8 = .ok (.iconst 2, 1) := by decide +kernel
theorem dX8_commands_9 : decode cX8_commands 9 = .ok (.if_icmp .ge 115, 3) := by decide +kernel
theorem dX8_commands_12 : decode cX8_commands 12 = .ok (.aload_n 0, 1) := by decide +kernel
theorem dX8_commands_13 : decode cX8_commands 13 = .ok (.iload 5, 2) := by decide +kernel
theorem dX8_commands_15 : decode cX8_commands 15 = .ok (.iload_n 1, 1) := by decide +kernel
theorem dX8_commands_16 : decode cX8_commands 16 = .ok (.invokevirtual 142, 3) := by decide +kernel
theorem dX8_commands_19 : decode cX8_commands 19 = .ok (.ifCond .eq 99, 3) := by decide +kernel
theorem dX8_commands_22 : decode cX8_commands 22 = .ok (.iinc 4 1, 3) := by decide +kernel
theorem dX8_commands_25 : decode cX8_commands 25 = .ok (.iconst 0, 1) := by decide +kernel
theorem dX8_commands_26 : decode cX8_commands 26 = .ok (.istore 6, 2) := by decide +kernel
theorem dX8_commands_28 : decode cX8_commands 28 = .ok (.iload 6, 2) := by decide +kernel
theorem dX8_commands_30 : decode cX8_commands 30 = .ok (.iconst 5, 1) := by decide +kernel
theorem dX8_commands_31 : decode cX8_commands 31 = .ok (.if_icmp .ge 21, 3) := by decide +kernel
theorem dX8_commands_34 : decode cX8_commands 34 = .ok (.aload_n 0, 1) := by decide +kernel
theorem dX8_commands_35 : decode cX8_commands 35 = .ok (.iload 5, 2) := by decide +kernel
theorem dX8_commands_37 : decode cX8_commands 37 = .ok (.bipush 8, 2) := by decide +kernel
theorem dX8_commands_39 : decode cX8_commands 39 = .ok (.iload 6, 2) := by decide +kernel
theorem dX8_commands_41 : decode cX8_commands 41 = .ok (.iadd, 1) := by decide +kernel
theorem dX8_commands_42 : decode cX8_commands 42 = .ok (.iconst 0, 1) := by decide +kernel
theorem dX8_commands_43 : decode cX8_commands 43 = .ok (.invokevirtual 88, 3) := by decide +kernel
theorem dX8_commands_46 : decode cX8_commands 46 = .ok (.iinc 6 1, 3) := by decide +kernel
theorem dX8_commands_49 : decode cX8_commands 49 = .ok (.goto (-21), 3) := by decide +kernel
theorem dX8_commands_52 : decode cX8_commands 52 = .ok (.iload_n 2, 1) := by decide +kernel
theorem dX8_commands_53 : decode cX8_commands 53 = .ok (.aload_n 0, 1) := by decide +kernel
theorem dX8_commands_54 : decode cX8_commands 54 = .ok (.iload 5, 2) := by decide +kernel
theorem dX8_commands_56 : decode cX8_commands 56 = .ok (.bipush 6, 2) := by decide +kernel
theorem dX8_commands_58 : decode cX8_commands 58 = .ok (.invokevirtual 80, 3) := by decide +kernel
theorem dX8_commands_61 : decode cX8_commands 61 = .ok (.isub, 1) := by decide +kernel
theorem dX8_commands_62 : decode cX8_commands 62 = .ok (.istore 6, 2) := by decide +kernel
theorem dX8_commands_64 : decode cX8_commands 64 = .ok (.iload_n 3, 1) := by decide +kernel
theorem dX8_commands_65 : decode cX8_commands 65 = .ok (.ifCond .ge 8, 3) := by decide +kernel
theorem dX8_commands_68 : decode cX8_commands 68 = .ok (.iload 6, 2) := by decide +kernel
theorem dX8_commands_70 : decode cX8_commands 70 = .ok (.goto 7, 3) := by decide +kernel
theorem dX8_commands_73 : decode cX8_commands 73 = .ok (.iload 6, 2) := by decide +kernel
theorem dX8_commands_75 : decode cX8_commands 75 = .ok (.iconst 2, 1) := by decide +kernel
theorem dX8_commands_76 : decode cX8_commands 76 = .ok (.idiv, 1) := by decide +kernel
theorem dX8_commands_77 : decode cX8_commands 77 = .ok (.istore 7, 2) := by decide +kernel
theorem dX8_commands_79 : decode cX8_commands 79 = .ok (.aload_n 0, 1) := by decide +kernel
theorem dX8_commands_80 : decode cX8_commands 80 = .ok (.iload 5, 2) := by decide +kernel
theorem dX8_commands_82 : decode cX8_commands 82 = .ok (.aload_n 0, 1) := by decide +kernel
theorem dX8_commands_83 : decode cX8_commands 83 = .ok (.getfield 7, 3) := by decide +kernel
theorem dX8_commands_86 : decode cX8_commands 86 = .ok (.bipush 6, 2) := by decide +kernel
theorem dX8_commands_88 : decode cX8_commands 88 = .ok (.iaload, 1) := by decide +kernel
theorem dX8_commands_89 : decode cX8_commands 89 = .ok (.iconst 1, 1) := by decide +kernel
theorem dX8_commands_90 : decode cX8_commands 90 = .ok (.iadd, 1) := by decide +kernel
theorem dX8_commands_91 : decode cX8_commands 91 = .ok (.iload 7, 2) := by decide +kernel
theorem dX8_commands_93 : decode cX8_commands 93 = .ok (.invokevirtual 145, 3) := by decide +kernel
theorem dX8_commands_96 : decode cX8_commands 96 = .ok (.aload_n 0, 1) := by decide +kernel
theorem dX8_commands_97 : decode cX8_commands 97 = .ok (.iload 5, 2) := by decide +kernel
theorem dX8_commands_99 : decode cX8_commands 99 = .ok (.aload_n 0, 1) := by decide +kernel
theorem dX8_commands_100 : decode cX8_commands 100 = .ok (.getfield 7, 3) := by decide +kernel
theorem dX8_commands_103 : decode cX8_commands 103 = .ok (.bipush 6, 2) := by decide +kernel
theorem dX8_commands_105 : decode cX8_commands 105 = .ok (.iaload, 1) := by decide +kernel
theorem dX8_commands_106 : decode cX8_commands 106 = .ok (.iconst 1, 1) := by decide +kernel
theorem dX8_commands_107 : decode cX8_commands 107 = .ok (.iadd, 1) := by decide +kernel
theorem dX8_commands_108 : decode cX8_commands 108 = .ok (.iload_n 3, 1) := by decide +kernel
theorem dX8_commands_109 : decode cX8_commands 109 = .ok (.iadd, 1) := by decide +kernel
theorem dX8_commands_110 : decode cX8_commands 110 = .ok (.iload 6, 2) := by decide +kernel
theorem dX8_commands_112 : decode cX8_commands 112 = .ok (.iload 7, 2) := by decide +kernel
theorem dX8_commands_114 : decode cX8_commands 114 = .ok (.isub, 1) := by decide +kernel
theorem dX8_commands_115 : decode cX8_commands 115 = .ok (.invokevirtual 145, 3) := by decide +kernel
theorem dX8_commands_118 : decode cX8_commands 118 = .ok (.iinc 5 1, 3) := by decide +kernel
theorem dX8_commands_121 : decode cX8_commands 121 = .ok (.goto (-115), 3) := by decide +kernel
theorem dX8_commands_124 : decode cX8_commands 124 = .ok (.iload 4, 2) := by decide +kernel
theorem dX8_commands_126 : decode cX8_commands 126 = .ok (.ireturn, 1) := by decide +kernel
set_option maxRecDepth 20000 in
theorem ggX8_command_X8_isCrane : GoodIn wsX8_command wsX8_isCrane := goodIn_r _ [4] (by decide +kernel) (by decide +kernel)
set_option maxRecDepth 20000 in
theorem gX8_command_X8_isCrane : GoodIn wsX8_command (va_wsS RX8 148 yX8_isCrane wsX8_isCrane) := goodIn_app (goodIn_of _ (by decide +kernel)) ggX8_command_X8_isCrane
set_option maxRecDepth 20000 in
theorem ggX8_command_X8_in : GoodIn wsX8_command wsX8_in := goodIn_r _ [7] (by decide +kernel) (by decide +kernel)
set_option maxRecDepth 20000 in
theorem gX8_command_X8_in : GoodIn wsX8_command (va_wsS RX8 48 yX8_in wsX8_in) := goodIn_app (goodIn_of _ (by decide +kernel)) ggX8_command_X8_in
set_option maxRecDepth 20000 in
theorem ggX8_command_X8_keeps : GoodIn wsX8_command wsX8_keeps := goodIn_r _ [11, 12, 13, 14, 35, 36, 37, 38, 39, 40, 41, 42, 43] (by decide +kernel) (by decide +kernel)
set_option maxRecDepth 20000 in
theorem gX8_command_X8_keeps : GoodIn wsX8_command (wsV RX8 133 RX8 yX8_keeps wsX8_keeps) := goodIn_app (goodIn_of _ (by decide +kernel)) ggX8_command_X8_keeps
set_option maxRecDepth 20000 in
theorem ggX8_command_X8_commands : GoodIn wsX8_command wsX8_commands := goodIn_r _ [18, 14, 19, 20, 21, 3, 22, 23, 24, 25, 26, 27, 28, 29, 30, 31, 32, 33, 34, 35, 36, 37, 38, 39, 40, 41, 42, 43] (by decide +kernel) (by decide +kernel)
set_option maxRecDepth 20000 in
theorem gX8_command_X8_commands : GoodIn wsX8_command (wsV RX8 151 RX8 yX8_commands wsX8_commands) := goodIn_app (goodIn_of _ (by decide +kernel)) ggX8_command_X8_commands
theorem dX8_command_0 : decode cX8_command 0 = .ok (.iload_n 1, 1) := by decide +kernel
theorem dX8_command_1 : decode cX8_command 1 = .ok (.invokestatic 148, 3) := by decide +kernel
theorem dX8_command_4 : decode cX8_command 4 = .ok (.ifCond .eq 14, 3) := by decide +kernel
theorem dX8_command_7 : decode cX8_command 7 = .ok (.iload_n 2, 1) := by decide +kernel
theorem dX8_command_8 : decode cX8_command 8 = .ok (.bipush (-40), 2) := by decide +kernel
theorem dX8_command_10 : decode cX8_command 10 = .ok (.bipush 40, 2) := by decide +kernel
theorem dX8_command_12 : decode cX8_command 12 = .ok (.invokestatic 48, 3) := by decide +kernel
theorem dX8_command_15 : decode cX8_command 15 = .ok (.ifCond .ne 5, 3) := by decide +kernel
theorem dX8_command_18 : decode cX8_command 18 = .ok (.iconst (-1), 1) := by decide +kernel
theorem dX8_command_19 : decode cX8_command 19 = .ok (.ireturn, 1) := by decide +kernel
theorem dX8_command_20 : decode cX8_command 20 = .ok (.aload_n 0, 1) := by decide +kernel
theorem dX8_command_21 : decode cX8_command 21 = .ok (.invokevirtual 133, 3) := by decide +kernel
theorem dX8_command_24 : decode cX8_command 24 = .ok (.aload_n 0, 1) := by decide +kernel
theorem dX8_command_25 : decode cX8_command 25 = .ok (.iload_n 1, 1) := by decide +kernel
theorem dX8_command_26 : decode cX8_command 26 = .ok (.iload_n 2, 1) := by decide +kernel
theorem dX8_command_27 : decode cX8_command 27 = .ok (.iconst (-1), 1) := by decide +kernel
theorem dX8_command_28 : decode cX8_command 28 = .ok (.invokevirtual 151, 3) := by decide +kernel
theorem dX8_command_31 : decode cX8_command 31 = .ok (.ireturn, 1) := by decide +kernel
set_option maxRecDepth 20000 in
theorem ggX8_shapes_X8_heeds : GoodIn wsX8_shapes wsX8_heeds := goodIn_r _ [6, 1, 26, 27, 28, 29, 30, 31, 32, 33, 34] (by decide +kernel) (by decide +kernel)
set_option maxRecDepth 20000 in
theorem gX8_shapes_X8_heeds : GoodIn wsX8_shapes (wsV RX8 142 RX8 yX8_heeds wsX8_heeds) := goodIn_app (goodIn_of _ (by decide +kernel)) ggX8_shapes_X8_heeds
set_option maxRecDepth 20000 in
theorem ggX8_shapes_X8_of : GoodIn wsX8_shapes wsX8_of := goodIn_r _ [10, 1, 26, 27, 28, 29, 30, 31, 32, 33, 34] (by decide +kernel) (by decide +kernel)
set_option maxRecDepth 20000 in
theorem gX8_shapes_X8_of : GoodIn wsX8_shapes (wsV RX8 80 RX8 yX8_of wsX8_of) := goodIn_app (goodIn_of _ (by decide +kernel)) ggX8_shapes_X8_of
set_option maxRecDepth 20000 in
theorem ggX8_shapes_X8_halfOf : GoodIn wsX8_shapes wsX8_halfOf := goodIn_r _ [13] (by decide +kernel) (by decide +kernel)
set_option maxRecDepth 20000 in
theorem gX8_shapes_X8_halfOf : GoodIn wsX8_shapes (va_wsS RX8 155 yX8_halfOf wsX8_halfOf) := goodIn_app (goodIn_of _ (by decide +kernel)) ggX8_shapes_X8_halfOf
set_option maxRecDepth 20000 in
theorem ggX8_shapes_X8_commands : GoodIn wsX8_shapes wsX8_commands := goodIn_r _ [17, 1, 2, 3, 4, 5, 6, 18, 19, 20, 21, 7, 8, 9, 10, 22, 23, 24, 25, 26, 27, 28, 29, 30, 31, 32, 33, 34] (by decide +kernel) (by decide +kernel)
set_option maxRecDepth 20000 in
theorem gX8_shapes_X8_commands : GoodIn wsX8_shapes (wsV RX8 151 RX8 yX8_commands wsX8_commands) := goodIn_app (goodIn_of _ (by decide +kernel)) ggX8_shapes_X8_commands
theorem dX8_shapes_0 : decode cX8_shapes 0 = .ok (.iconst 0, 1) := by decide +kernel
theorem dX8_shapes_1 : decode cX8_shapes 1 = .ok (.istore_n 3, 1) := by decide +kernel
theorem dX8_shapes_2 : decode cX8_shapes 2 = .ok (.iconst 0, 1) := by decide +kernel
theorem dX8_shapes_3 : decode cX8_shapes 3 = .ok (.istore 4, 2) := by decide +kernel
theorem dX8_shapes_5 : decode cX8_shapes 5 = .ok (.iload 4, 2) := by decide +kernel
theorem dX8_shapes_7 : decode cX8_shapes 7 = .ok (.iconst 2, 1) := by decide +kernel
theorem dX8_shapes_8 : decode cX8_shapes 8 = .ok (.if_icmp .ge 63, 3) := by decide +kernel
theorem dX8_shapes_11 : decode cX8_shapes 11 = .ok (.aload_n 0, 1) := by decide +kernel
theorem dX8_shapes_12 : decode cX8_shapes 12 = .ok (.iload 4, 2) := by decide +kernel
theorem dX8_shapes_14 : decode cX8_shapes 14 = .ok (.iload_n 1, 1) := by decide +kernel
theorem dX8_shapes_15 : decode cX8_shapes 15 = .ok (.invokevirtual 142, 3) := by decide +kernel
theorem dX8_shapes_18 : decode cX8_shapes 18 = .ok (.ifCond .eq 47, 3) := by decide +kernel
theorem dX8_shapes_21 : decode cX8_shapes 21 = .ok (.aload_n 0, 1) := by decide +kernel
theorem dX8_shapes_22 : decode cX8_shapes 22 = .ok (.getfield 7, 3) := by decide +kernel
theorem dX8_shapes_25 : decode cX8_shapes 25 = .ok (.iconst 5, 1) := by decide +kernel
theorem dX8_shapes_26 : decode cX8_shapes 26 = .ok (.iaload, 1) := by decide +kernel
theorem dX8_shapes_27 : decode cX8_shapes 27 = .ok (.istore 5, 2) := by decide +kernel
theorem dX8_shapes_29 : decode cX8_shapes 29 = .ok (.aload_n 0, 1) := by decide +kernel
theorem dX8_shapes_30 : decode cX8_shapes 30 = .ok (.getfield 7, 3) := by decide +kernel
theorem dX8_shapes_33 : decode cX8_shapes 33 = .ok (.iconst 5, 1) := by decide +kernel
theorem dX8_shapes_34 : decode cX8_shapes 34 = .ok (.bipush (-4), 2) := by decide +kernel
theorem dX8_shapes_36 : decode cX8_shapes 36 = .ok (.iastore, 1) := by decide +kernel
theorem dX8_shapes_37 : decode cX8_shapes 37 = .ok (.iload_n 3, 1) := by decide +kernel
theorem dX8_shapes_38 : decode cX8_shapes 38 = .ok (.aload_n 0, 1) := by decide +kernel
theorem dX8_shapes_39 : decode cX8_shapes 39 = .ok (.iload 4, 2) := by decide +kernel
theorem dX8_shapes_41 : decode cX8_shapes 41 = .ok (.iload_n 2, 1) := by decide +kernel
theorem dX8_shapes_42 : decode cX8_shapes 42 = .ok (.aload_n 0, 1) := by decide +kernel
theorem dX8_shapes_43 : decode cX8_shapes 43 = .ok (.iload 4, 2) := by decide +kernel
theorem dX8_shapes_45 : decode cX8_shapes 45 = .ok (.iconst 2, 1) := by decide +kernel
theorem dX8_shapes_46 : decode cX8_shapes 46 = .ok (.invokevirtual 80, 3) := by decide +kernel
theorem dX8_shapes_49 : decode cX8_shapes 49 = .ok (.invokestatic 155, 3) := by decide +kernel
theorem dX8_shapes_52 : decode cX8_shapes 52 = .ok (.invokevirtual 151, 3) := by decide +kernel
theorem dX8_shapes_55 : decode cX8_shapes 55 = .ok (.iadd, 1) := by decide +kernel
theorem dX8_shapes_56 : decode cX8_shapes 56 = .ok (.istore_n 3, 1) := by decide +kernel
theorem dX8_shapes_57 : decode cX8_shapes 57 = .ok (.aload_n 0, 1) := by decide +kernel
theorem dX8_shapes_58 : decode cX8_shapes 58 = .ok (.getfield 7, 3) := by decide +kernel
theorem dX8_shapes_61 : decode cX8_shapes 61 = .ok (.iconst 5, 1) := by decide +kernel
theorem dX8_shapes_62 : decode cX8_shapes 62 = .ok (.iload 5, 2) := by decide +kernel
theorem dX8_shapes_64 : decode cX8_shapes 64 = .ok (.iastore, 1) := by decide +kernel
theorem dX8_shapes_65 : decode cX8_shapes 65 = .ok (.iinc 4 1, 3) := by decide +kernel
theorem dX8_shapes_68 : decode cX8_shapes 68 = .ok (.goto (-63), 3) := by decide +kernel
theorem dX8_shapes_71 : decode cX8_shapes 71 = .ok (.iload_n 3, 1) := by decide +kernel
theorem dX8_shapes_72 : decode cX8_shapes 72 = .ok (.ireturn, 1) := by decide +kernel
set_option maxRecDepth 20000 in
theorem ggX8_shape_X8_isCrane : GoodIn wsX8_shape wsX8_isCrane := goodIn_r _ [4] (by decide +kernel) (by decide +kernel)
set_option maxRecDepth 20000 in
theorem gX8_shape_X8_isCrane : GoodIn wsX8_shape (va_wsS RX8 148 yX8_isCrane wsX8_isCrane) := goodIn_app (goodIn_of _ (by decide +kernel)) ggX8_shape_X8_isCrane
set_option maxRecDepth 20000 in
theorem ggX8_shape_X8_in : GoodIn wsX8_shape wsX8_in := goodIn_r _ [7] (by decide +kernel) (by decide +kernel)
set_option maxRecDepth 20000 in
theorem gX8_shape_X8_in : GoodIn wsX8_shape (va_wsS RX8 48 yX8_in wsX8_in) := goodIn_app (goodIn_of _ (by decide +kernel)) ggX8_shape_X8_in
set_option maxRecDepth 20000 in
theorem ggX8_shape_X8_keeps : GoodIn wsX8_shape wsX8_keeps := goodIn_r _ [11, 12, 13, 14, 42, 43, 44, 45, 46, 47, 48, 49, 50] (by decide +kernel) (by decide +kernel)
set_option maxRecDepth 20000 in
theorem gX8_shape_X8_keeps : GoodIn wsX8_shape (wsV RX8 133 RX8 yX8_keeps wsX8_keeps) := goodIn_app (goodIn_of _ (by decide +kernel)) ggX8_shape_X8_keeps
set_option maxRecDepth 20000 in
theorem ggX8_shape_X8_shapes : GoodIn wsX8_shape wsX8_shapes := goodIn_r _ [18, 14, 19, 20, 21, 3, 22, 23, 24, 25, 26, 27, 28, 29, 30, 31, 32, 33, 34, 35, 36, 37, 38, 39, 40, 41, 42, 43, 44, 45, 46, 47, 48, 49, 50] (by decide +kernel) (by decide +kernel)
set_option maxRecDepth 20000 in
theorem gX8_shape_X8_shapes : GoodIn wsX8_shape (wsV RX8 158 RX8 yX8_shapes wsX8_shapes) := goodIn_app (goodIn_of _ (by decide +kernel)) ggX8_shape_X8_shapes
set_option maxRecDepth 20000 in
theorem ggX8_shape_X8_commands : GoodIn wsX8_shape wsX8_commands := goodIn_r _ [33, 14, 19, 20, 21, 3, 22, 34, 35, 36, 37, 23, 24, 25, 26, 38, 39, 40, 41, 42, 43, 44, 45, 46, 47, 48, 49, 50] (by decide +kernel) (by decide +kernel)
set_option maxRecDepth 20000 in
theorem gX8_shape_X8_commands : GoodIn wsX8_shape (wsV RX8 151 RX8 yX8_commands wsX8_commands) := goodIn_app (goodIn_of _ (by decide +kernel)) ggX8_shape_X8_commands
theorem dX8_shape_0 : decode cX8_shape 0 = .ok (.iload_n 1, 1) := by decide +kernel
theorem dX8_shape_1 : decode cX8_shape 1 = .ok (.invokestatic 148, 3) := by decide +kernel
theorem dX8_shape_4 : decode cX8_shape 4 = .ok (.ifCond .eq 24, 3) := by decide +kernel
theorem dX8_shape_7 : decode cX8_shape 7 = .ok (.iload_n 2, 1) := by decide +kernel
theorem dX8_shape_8 : decode cX8_shape 8 = .ok (.bipush (-40), 2) := by decide +kernel
theorem dX8_shape_10 : decode cX8_shape 10 = .ok (.bipush 40, 2) := by decide +kernel
theorem dX8_shape_12 : decode cX8_shape 12 = .ok (.invokestatic 48, 3) := by decide +kernel
theorem dX8_shape_15 : decode cX8_shape 15 = .ok (.ifCond .eq 13, 3) := by decide +kernel
theorem dX8_shape_18 : decode cX8_shape 18 = .ok (.iload_n 3, 1) := by decide +kernel
theorem dX8_shape_19 : decode cX8_shape 19 = .ok (.iconst (-1), 1) := by decide +kernel
theorem dX8_shape_20 : decode cX8_shape 20 = .ok (.bipush 20, 2) := by decide +kernel
theorem dX8_shape_22 : decode cX8_shape 22 = .ok (.invokestatic 48, 3) := by decide +kernel
theorem dX8_shape_25 : decode cX8_shape 25 = .ok (.ifCond .ne 5, 3) := by decide +kernel
theorem dX8_shape_28 : decode cX8_shape 28 = .ok (.iconst (-1), 1) := by decide +kernel
theorem dX8_shape_29 : decode cX8_shape 29 = .ok (.ireturn, 1) := by decide +kernel
theorem dX8_shape_30 : decode cX8_shape 30 = .ok (.aload_n 0, 1) := by decide +kernel
theorem dX8_shape_31 : decode cX8_shape 31 = .ok (.invokevirtual 133, 3) := by decide +kernel
theorem dX8_shape_34 : decode cX8_shape 34 = .ok (.iload_n 3, 1) := by decide +kernel
theorem dX8_shape_35 : decode cX8_shape 35 = .ok (.ifCond .ge 12, 3) := by decide +kernel
theorem dX8_shape_38 : decode cX8_shape 38 = .ok (.aload_n 0, 1) := by decide +kernel
theorem dX8_shape_39 : decode cX8_shape 39 = .ok (.iload_n 1, 1) := by decide +kernel
theorem dX8_shape_40 : decode cX8_shape 40 = .ok (.iload_n 2, 1) := by decide +kernel
theorem dX8_shape_41 : decode cX8_shape 41 = .ok (.invokevirtual 158, 3) := by decide +kernel
theorem dX8_shape_44 : decode cX8_shape 44 = .ok (.goto 10, 3) := by decide +kernel
theorem dX8_shape_47 : decode cX8_shape 47 = .ok (.aload_n 0, 1) := by decide +kernel
theorem dX8_shape_48 : decode cX8_shape 48 = .ok (.iload_n 1, 1) := by decide +kernel
theorem dX8_shape_49 : decode cX8_shape 49 = .ok (.iload_n 2, 1) := by decide +kernel
theorem dX8_shape_50 : decode cX8_shape 50 = .ok (.iload_n 3, 1) := by decide +kernel
theorem dX8_shape_51 : decode cX8_shape 51 = .ok (.invokevirtual 151, 3) := by decide +kernel
theorem dX8_shape_54 : decode cX8_shape 54 = .ok (.ireturn, 1) := by decide +kernel
set_option maxRecDepth 20000 in
theorem ggX8_target_X8_isCrane : GoodIn wsX8_target wsX8_isCrane := goodIn_r _ [4] (by decide +kernel) (by decide +kernel)
set_option maxRecDepth 20000 in
theorem gX8_target_X8_isCrane : GoodIn wsX8_target (va_wsS RX8 148 yX8_isCrane wsX8_isCrane) := goodIn_app (goodIn_of _ (by decide +kernel)) ggX8_target_X8_isCrane
set_option maxRecDepth 20000 in
theorem ggX8_target_X8_in : GoodIn wsX8_target wsX8_in := goodIn_r _ [7] (by decide +kernel) (by decide +kernel)
set_option maxRecDepth 20000 in
theorem gX8_target_X8_in : GoodIn wsX8_target (va_wsS RX8 48 yX8_in wsX8_in) := goodIn_app (goodIn_of _ (by decide +kernel)) ggX8_target_X8_in
set_option maxRecDepth 20000 in
theorem ggX8_target_X8_heeds : GoodIn wsX8_target wsX8_heeds := goodIn_r _ [11, 12, 27, 28, 29, 30, 31, 32, 33, 34, 35] (by decide +kernel) (by decide +kernel)
set_option maxRecDepth 20000 in
theorem gX8_target_X8_heeds : GoodIn wsX8_target (wsV RX8 142 RX8 yX8_heeds wsX8_heeds) := goodIn_app (goodIn_of _ (by decide +kernel)) ggX8_target_X8_heeds
set_option maxRecDepth 20000 in
theorem ggX8_target_X8_of : GoodIn wsX8_target wsX8_of := goodIn_r _ [16, 12, 27, 28, 29, 30, 31, 32, 33, 34, 35] (by decide +kernel) (by decide +kernel)
set_option maxRecDepth 20000 in
theorem gX8_target_X8_of : GoodIn wsX8_target (wsV RX8 80 RX8 yX8_of wsX8_of) := goodIn_app (goodIn_of _ (by decide +kernel)) ggX8_target_X8_of
set_option maxRecDepth 20000 in
theorem ggX8_target_X8_keeps : GoodIn wsX8_target wsX8_keeps := goodIn_r _ [20, 21, 22, 12, 27, 28, 29, 30, 31, 32, 33, 34, 35] (by decide +kernel) (by decide +kernel)
set_option maxRecDepth 20000 in
theorem gX8_target_X8_keeps : GoodIn wsX8_target (wsV RX8 133 RX8 yX8_keeps wsX8_keeps) := goodIn_app (goodIn_of _ (by decide +kernel)) ggX8_target_X8_keeps
set_option maxRecDepth 20000 in
theorem ggX8_target_X8_tells : GoodIn wsX8_target wsX8_tells := goodIn_r _ [26, 12, 27, 28, 29, 30, 31, 32, 33, 34, 35] (by decide +kernel) (by decide +kernel)
set_option maxRecDepth 20000 in
theorem gX8_target_X8_tells : GoodIn wsX8_target (wsV RX8 88 RX8 yX8_tells wsX8_tells) := goodIn_app (goodIn_of _ (by decide +kernel)) ggX8_target_X8_tells
theorem dX8_target_0 : decode cX8_target 0 = .ok (.iload_n 1, 1) := by decide +kernel
theorem dX8_target_1 : decode cX8_target 1 = .ok (.invokestatic 148, 3) := by decide +kernel
theorem dX8_target_4 : decode cX8_target 4 = .ok (.ifCond .eq 14, 3) := by decide +kernel
theorem dX8_target_7 : decode cX8_target 7 = .ok (.iload_n 2, 1) := by decide +kernel
theorem dX8_target_8 : decode cX8_target 8 = .ok (.bipush 10, 2) := by decide +kernel
theorem dX8_target_10 : decode cX8_target 10 = .ok (.bipush 60, 2) := by decide +kernel
theorem dX8_target_12 : decode cX8_target 12 = .ok (.invokestatic 48, 3) := by decide +kernel
theorem dX8_target_15 : decode cX8_target 15 = .ok (.ifCond .ne 5, 3) := by decide +kernel
theorem dX8_target_18 : decode cX8_target 18 = .ok (.iconst (-1), 1) := by decide +kernel
theorem dX8_target_19 : decode cX8_target 19 = .ok (.ireturn, 1) := by decide +kernel
theorem dX8_target_20 : decode cX8_target 20 = .ok (.iconst 1, 1) := by decide +kernel
theorem dX8_target_21 : decode cX8_target 21 = .ok (.istore_n 3, 1) := by decide +kernel
theorem dX8_target_22 : decode cX8_target 22 = .ok (.iconst 0, 1) := by decide +kernel
theorem dX8_target_23 : decode cX8_target 23 = .ok (.istore 4, 2) := by decide +kernel
theorem dX8_target_25 : decode cX8_target 25 = .ok (.iload 4, 2) := by decide +kernel
theorem dX8_target_27 : decode cX8_target 27 = .ok (.iconst 2, 1) := by decide +kernel
theorem dX8_target_28 : decode cX8_target 28 = .ok (.if_icmp .ge 41, 3) := by decide +kernel
theorem dX8_target_31 : decode cX8_target 31 = .ok (.iload_n 3, 1) := by decide +kernel
theorem dX8_target_32 : decode cX8_target 32 = .ok (.ifCond .eq 29, 3) := by decide +kernel
theorem dX8_target_35 : decode cX8_target 35 = .ok (.aload_n 0, 1) := by decide +kernel
theorem dX8_target_36 : decode cX8_target 36 = .ok (.iload 4, 2) := by decide +kernel
theorem dX8_target_38 : decode cX8_target 38 = .ok (.iload_n 1, 1) := by decide +kernel
theorem dX8_target_39 : decode cX8_target 39 = .ok (.invokevirtual 142, 3) := by decide +kernel
theorem dX8_target_42 : decode cX8_target 42 = .ok (.ifCond .eq 15, 3) := by decide +kernel
theorem dX8_target_45 : decode cX8_target 45 = .ok (.aload_n 0, 1) := by decide +kernel
theorem dX8_target_46 : decode cX8_target 46 = .ok (.iload 4, 2) := by decide +kernel
theorem dX8_target_48 : decode cX8_target 48 = .ok (.bipush 7, 2) := by decide +kernel
theorem dX8_target_50 : decode cX8_target 50 = .ok (.invokevirtual 80, 3) := by decide +kernel
theorem dX8_target_53 : decode cX8_target 53 = .ok (.iload_n 2, 1) := by decide +kernel
theorem dX8_target_54 : decode cX8_target 54 = .ok (.if_icmp .ne 7, 3) := by decide +kernel
theorem dX8_target_57 : decode cX8_target 57 = .ok (.iconst 1, 1) := by decide +kernel
theorem dX8_target_58 : decode cX8_target 58 = .ok (.goto 4, 3) := by decide +kernel
theorem dX8_target_61 : decode cX8_target 61 = .ok (.iconst 0, 1) := by decide +kernel
theorem dX8_target_62 : decode cX8_target 62 = .ok (.istore_n 3, 1) := by decide +kernel
theorem dX8_target_63 : decode cX8_target 63 = .ok (.iinc 4 1, 3) := by decide +kernel
theorem dX8_target_66 : decode cX8_target 66 = .ok (.goto (-41), 3) := by decide +kernel
theorem dX8_target_69 : decode cX8_target 69 = .ok (.iload_n 3, 1) := by decide +kernel
theorem dX8_target_70 : decode cX8_target 70 = .ok (.ifCond .eq 6, 3) := by decide +kernel
theorem dX8_target_73 : decode cX8_target 73 = .ok (.bipush (-2), 2) := by decide +kernel
theorem dX8_target_75 : decode cX8_target 75 = .ok (.ireturn, 1) := by decide +kernel
theorem dX8_target_76 : decode cX8_target 76 = .ok (.aload_n 0, 1) := by decide +kernel
theorem dX8_target_77 : decode cX8_target 77 = .ok (.invokevirtual 133, 3) := by decide +kernel
theorem dX8_target_80 : decode cX8_target 80 = .ok (.aload_n 0, 1) := by decide +kernel
theorem dX8_target_81 : decode cX8_target 81 = .ok (.iload_n 1, 1) := by decide +kernel
theorem dX8_target_82 : decode cX8_target 82 = .ok (.bipush 7, 2) := by decide +kernel
theorem dX8_target_84 : decode cX8_target 84 = .ok (.invokevirtual 80, 3) := by decide +kernel
theorem dX8_target_87 : decode cX8_target 87 = .ok (.istore 4, 2) := by decide +kernel
theorem dX8_target_89 : decode cX8_target 89 = .ok (.iconst 0, 1) := by decide +kernel
theorem dX8_target_90 : decode cX8_target 90 = .ok (.istore 5, 2) := by decide +kernel
theorem dX8_target_92 : decode cX8_target 92 = .ok (.iload 5, 2) := by decide +kernel
theorem dX8_target_94 : decode cX8_target 94 = .ok (.iconst 2, 1) := by decide +kernel
theorem dX8_target_95 : decode cX8_target 95 = .ok (.if_icmp .ge 28, 3) := by decide +kernel
theorem dX8_target_98 : decode cX8_target 98 = .ok (.aload_n 0, 1) := by decide +kernel
theorem dX8_target_99 : decode cX8_target 99 = .ok (.iload 5, 2) := by decide +kernel
theorem dX8_target_101 : decode cX8_target 101 = .ok (.iload_n 1, 1) := by decide +kernel
theorem dX8_target_102 : decode cX8_target 102 = .ok (.invokevirtual 142, 3) := by decide +kernel
theorem dX8_target_105 : decode cX8_target 105 = .ok (.ifCond .eq 12, 3) := by decide +kernel
theorem dX8_target_108 : decode cX8_target 108 = .ok (.aload_n 0, 1) := by decide +kernel
theorem dX8_target_109 : decode cX8_target 109 = .ok (.iload 5, 2) := by decide +kernel
theorem dX8_target_111 : decode cX8_target 111 = .ok (.bipush 7, 2) := by decide +kernel
theorem dX8_target_113 : decode cX8_target 113 = .ok (.iload_n 2, 1) := by decide +kernel
theorem dX8_target_114 : decode cX8_target 114 = .ok (.invokevirtual 88, 3) := by decide +kernel
theorem dX8_target_117 : decode cX8_target 117 = .ok (.iinc 5 1, 3) := by decide +kernel
theorem dX8_target_120 : decode cX8_target 120 = .ok (.goto (-28), 3) := by decide +kernel
theorem dX8_target_123 : decode cX8_target 123 = .ok (.iload 4, 2) := by decide +kernel
theorem dX8_target_125 : decode cX8_target 125 = .ok (.ireturn, 1) := by decide +kernel
set_option maxRecDepth 20000 in
theorem ggX8_load_X8_isCrane : GoodIn wsX8_load wsX8_isCrane := goodIn_r _ [4] (by decide +kernel) (by decide +kernel)
set_option maxRecDepth 20000 in
theorem gX8_load_X8_isCrane : GoodIn wsX8_load (va_wsS RX8 148 yX8_isCrane wsX8_isCrane) := goodIn_app (goodIn_of _ (by decide +kernel)) ggX8_load_X8_isCrane
set_option maxRecDepth 20000 in
theorem ggX8_load_X8_in : GoodIn wsX8_load wsX8_in := goodIn_r _ [7] (by decide +kernel) (by decide +kernel)
set_option maxRecDepth 20000 in
theorem gX8_load_X8_in : GoodIn wsX8_load (va_wsS RX8 48 yX8_in wsX8_in) := goodIn_app (goodIn_of _ (by decide +kernel)) ggX8_load_X8_in
set_option maxRecDepth 20000 in
theorem ggX8_load_X8_of : GoodIn wsX8_load wsX8_of := goodIn_r _ [11, 12, 23, 24, 25, 26, 27, 28, 29, 30, 31] (by decide +kernel) (by decide +kernel)
set_option maxRecDepth 20000 in
theorem gX8_load_X8_of : GoodIn wsX8_load (wsV RX8 80 RX8 yX8_of wsX8_of) := goodIn_app (goodIn_of _ (by decide +kernel)) ggX8_load_X8_of
set_option maxRecDepth 20000 in
theorem ggX8_load_X8_keeps : GoodIn wsX8_load wsX8_keeps := goodIn_r _ [16, 17, 18, 12, 23, 24, 25, 26, 27, 28, 29, 30, 31] (by decide +kernel) (by decide +kernel)
set_option maxRecDepth 20000 in
theorem gX8_load_X8_keeps : GoodIn wsX8_load (wsV RX8 133 RX8 yX8_keeps wsX8_keeps) := goodIn_app (goodIn_of _ (by decide +kernel)) ggX8_load_X8_keeps
set_option maxRecDepth 20000 in
theorem ggX8_load_X8_tells : GoodIn wsX8_load wsX8_tells := goodIn_r _ [22, 12, 23, 24, 25, 26, 27, 28, 29, 30, 31] (by decide +kernel) (by decide +kernel)
set_option maxRecDepth 20000 in
theorem gX8_load_X8_tells : GoodIn wsX8_load (wsV RX8 88 RX8 yX8_tells wsX8_tells) := goodIn_app (goodIn_of _ (by decide +kernel)) ggX8_load_X8_tells
theorem dX8_load_0 : decode cX8_load 0 = .ok (.iload_n 1, 1) := by decide +kernel
theorem dX8_load_1 : decode cX8_load 1 = .ok (.invokestatic 148, 3) := by decide +kernel
theorem dX8_load_4 : decode cX8_load 4 = .ok (.ifCond .eq 13, 3) := by decide +kernel
theorem dX8_load_7 : decode cX8_load 7 = .ok (.iload_n 2, 1) := by decide +kernel
theorem dX8_load_8 : decode cX8_load 8 = .ok (.iconst 0, 1) := by decide +kernel
theorem dX8_load_9 : decode cX8_load 9 = .ok (.bipush 99, 2) := by decide +kernel
theorem dX8_load_11 : decode cX8_load 11 = .ok (.invokestatic 48, 3) := by decide +kernel
theorem dX8_load_14 : decode cX8_load 14 = .ok (.ifCond .ne 5, 3) := by decide +kernel
theorem dX8_load_17 : decode cX8_load 17 = .ok (.iconst (-1), 1) := by decide +kernel
theorem dX8_load_18 : decode cX8_load 18 = .ok (.ireturn, 1) := by decide +kernel
theorem dX8_load_19 : decode cX8_load 19 = .ok (.aload_n 0, 1) := by decide +kernel
theorem dX8_load_20 : decode cX8_load 20 = .ok (.iload_n 1, 1) := by decide +kernel
theorem dX8_load_21 : decode cX8_load 21 = .ok (.iconst 3, 1) := by decide +kernel
theorem dX8_load_22 : decode cX8_load 22 = .ok (.invokevirtual 80, 3) := by decide +kernel
theorem dX8_load_25 : decode cX8_load 25 = .ok (.istore_n 3, 1) := by decide +kernel
theorem dX8_load_26 : decode cX8_load 26 = .ok (.iload_n 3, 1) := by decide +kernel
theorem dX8_load_27 : decode cX8_load 27 = .ok (.iload_n 2, 1) := by decide +kernel
theorem dX8_load_28 : decode cX8_load 28 = .ok (.if_icmp .ne 6, 3) := by decide +kernel
theorem dX8_load_31 : decode cX8_load 31 = .ok (.bipush (-2), 2) := by decide +kernel
theorem dX8_load_33 : decode cX8_load 33 = .ok (.ireturn, 1) := by decide +kernel
theorem dX8_load_34 : decode cX8_load 34 = .ok (.aload_n 0, 1) := by decide +kernel
theorem dX8_load_35 : decode cX8_load 35 = .ok (.invokevirtual 133, 3) := by decide +kernel
theorem dX8_load_38 : decode cX8_load 38 = .ok (.aload_n 0, 1) := by decide +kernel
theorem dX8_load_39 : decode cX8_load 39 = .ok (.iload_n 1, 1) := by decide +kernel
theorem dX8_load_40 : decode cX8_load 40 = .ok (.iconst 3, 1) := by decide +kernel
theorem dX8_load_41 : decode cX8_load 41 = .ok (.iload_n 2, 1) := by decide +kernel
theorem dX8_load_42 : decode cX8_load 42 = .ok (.invokevirtual 88, 3) := by decide +kernel
theorem dX8_load_45 : decode cX8_load 45 = .ok (.iload_n 3, 1) := by decide +kernel
theorem dX8_load_46 : decode cX8_load 46 = .ok (.ireturn, 1) := by decide +kernel
set_option maxRecDepth 20000 in
theorem ggX8_couple_X8_in : GoodIn wsX8_couple wsX8_in := goodIn_r _ [5] (by decide +kernel) (by decide +kernel)
set_option maxRecDepth 20000 in
theorem gX8_couple_X8_in : GoodIn wsX8_couple (va_wsS RX8 48 yX8_in wsX8_in) := goodIn_app (goodIn_of _ (by decide +kernel)) ggX8_couple_X8_in
set_option maxRecDepth 20000 in
theorem ggX8_couple_X8_keeps : GoodIn wsX8_couple wsX8_keeps := goodIn_r _ [9, 10, 11, 1, 12, 13, 14, 15, 16, 17, 18, 19, 20] (by decide +kernel) (by decide +kernel)
set_option maxRecDepth 20000 in
theorem gX8_couple_X8_keeps : GoodIn wsX8_couple (wsV RX8 133 RX8 yX8_keeps wsX8_keeps) := goodIn_app (goodIn_of _ (by decide +kernel)) ggX8_couple_X8_keeps
theorem dX8_couple_0 : decode cX8_couple 0 = .ok (.iload_n 1, 1) := by decide +kernel
theorem dX8_couple_1 : decode cX8_couple 1 = .ok (.iconst (-1), 1) := by decide +kernel
theorem dX8_couple_2 : decode cX8_couple 2 = .ok (.bipush 20, 2) := by decide +kernel
theorem dX8_couple_4 : decode cX8_couple 4 = .ok (.invokestatic 48, 3) := by decide +kernel
theorem dX8_couple_7 : decode cX8_couple 7 = .ok (.ifCond .ne 5, 3) := by decide +kernel
theorem dX8_couple_10 : decode cX8_couple 10 = .ok (.iconst (-1), 1) := by decide +kernel
theorem dX8_couple_11 : decode cX8_couple 11 = .ok (.ireturn, 1) := by decide +kernel
theorem dX8_couple_12 : decode cX8_couple 12 = .ok (.aload_n 0, 1) := by decide +kernel
theorem dX8_couple_13 : decode cX8_couple 13 = .ok (.getfield 7, 3) := by decide +kernel
theorem dX8_couple_16 : decode cX8_couple 16 = .ok (.iconst 5, 1) := by decide +kernel
theorem dX8_couple_17 : decode cX8_couple 17 = .ok (.iaload, 1) := by decide +kernel
theorem dX8_couple_18 : decode cX8_couple 18 = .ok (.istore_n 2, 1) := by decide +kernel
theorem dX8_couple_19 : decode cX8_couple 19 = .ok (.iload_n 1, 1) := by decide +kernel
theorem dX8_couple_20 : decode cX8_couple 20 = .ok (.ifCond .ge 8, 3) := by decide +kernel
theorem dX8_couple_23 : decode cX8_couple 23 = .ok (.bipush (-4), 2) := by decide +kernel
theorem dX8_couple_25 : decode cX8_couple 25 = .ok (.goto 4, 3) := by decide +kernel
theorem dX8_couple_28 : decode cX8_couple 28 = .ok (.iload_n 1, 1) := by decide +kernel
theorem dX8_couple_29 : decode cX8_couple 29 = .ok (.istore_n 3, 1) := by decide +kernel
theorem dX8_couple_30 : decode cX8_couple 30 = .ok (.iload_n 2, 1) := by decide +kernel
theorem dX8_couple_31 : decode cX8_couple 31 = .ok (.iload_n 3, 1) := by decide +kernel
theorem dX8_couple_32 : decode cX8_couple 32 = .ok (.if_icmp .ne 6, 3) := by decide +kernel
theorem dX8_couple_35 : decode cX8_couple 35 = .ok (.bipush (-2), 2) := by decide +kernel
theorem dX8_couple_37 : decode cX8_couple 37 = .ok (.ireturn, 1) := by decide +kernel
theorem dX8_couple_38 : decode cX8_couple 38 = .ok (.aload_n 0, 1) := by decide +kernel
theorem dX8_couple_39 : decode cX8_couple 39 = .ok (.invokevirtual 133, 3) := by decide +kernel
theorem dX8_couple_42 : decode cX8_couple 42 = .ok (.aload_n 0, 1) := by decide +kernel
theorem dX8_couple_43 : decode cX8_couple 43 = .ok (.getfield 7, 3) := by decide +kernel
theorem dX8_couple_46 : decode cX8_couple 46 = .ok (.iconst 5, 1) := by decide +kernel
theorem dX8_couple_47 : decode cX8_couple 47 = .ok (.iload_n 3, 1) := by decide +kernel
theorem dX8_couple_48 : decode cX8_couple 48 = .ok (.iastore, 1) := by decide +kernel
theorem dX8_couple_49 : decode cX8_couple 49 = .ok (.iload_n 2, 1) := by decide +kernel
theorem dX8_couple_50 : decode cX8_couple 50 = .ok (.ireturn, 1) := by decide +kernel
set_option maxRecDepth 20000 in
theorem ggX8_isQuiet_X8_of : GoodIn wsX8_isQuiet wsX8_of := goodIn_r _ [5, 6, 10, 11, 12, 13, 14, 15, 16, 17, 18] (by decide +kernel) (by decide +kernel)
set_option maxRecDepth 20000 in
theorem gX8_isQuiet_X8_of : GoodIn wsX8_isQuiet (wsV RX8 80 RX8 yX8_of wsX8_of) := goodIn_app (goodIn_of _ (by decide +kernel)) ggX8_isQuiet_X8_of
set_option maxRecDepth 20000 in
theorem ggX8_isQuiet_X8_size : GoodIn wsX8_isQuiet wsX8_size := goodIn_r _ [9] (by decide +kernel) (by decide +kernel)
set_option maxRecDepth 20000 in
theorem gX8_isQuiet_X8_size : GoodIn wsX8_isQuiet (va_wsS RX8 84 yX8_size wsX8_size) := goodIn_app (goodIn_of _ (by decide +kernel)) ggX8_isQuiet_X8_size
theorem dX8_isQuiet_0 : decode cX8_isQuiet 0 = .ok (.aload_n 0, 1) := by decide +kernel
theorem dX8_isQuiet_1 : decode cX8_isQuiet 1 = .ok (.iload_n 1, 1) := by decide +kernel
theorem dX8_isQuiet_2 : decode cX8_isQuiet 2 = .ok (.iconst 1, 1) := by decide +kernel
theorem dX8_isQuiet_3 : decode cX8_isQuiet 3 = .ok (.invokevirtual 80, 3) := by decide +kernel
theorem dX8_isQuiet_6 : decode cX8_isQuiet 6 = .ok (.ifCond .ne 53, 3) := by decide +kernel
theorem dX8_isQuiet_9 : decode cX8_isQuiet 9 = .ok (.aload_n 0, 1) := by decide +kernel
theorem dX8_isQuiet_10 : decode cX8_isQuiet 10 = .ok (.iload_n 1, 1) := by decide +kernel
theorem dX8_isQuiet_11 : decode cX8_isQuiet 11 = .ok (.bipush 6, 2) := by decide +kernel
theorem dX8_isQuiet_13 : decode cX8_isQuiet 13 = .ok (.invokevirtual 80, 3) := by decide +kernel
theorem dX8_isQuiet_16 : decode cX8_isQuiet 16 = .ok (.ifCond .ne 43, 3) := by decide +kernel
theorem dX8_isQuiet_19 : decode cX8_isQuiet 19 = .ok (.aload_n 0, 1) := by decide +kernel
theorem dX8_isQuiet_20 : decode cX8_isQuiet 20 = .ok (.iload_n 1, 1) := by decide +kernel
theorem dX8_isQuiet_21 : decode cX8_isQuiet 21 = .ok (.bipush 8, 2) := by decide +kernel
theorem dX8_isQuiet_23 : decode cX8_isQuiet 23 = .ok (.invokevirtual 80, 3) := by decide +kernel
theorem dX8_isQuiet_26 : decode cX8_isQuiet 26 = .ok (.ifCond .ne 33, 3) := by decide +kernel
theorem dX8_isQuiet_29 : decode cX8_isQuiet 29 = .ok (.aload_n 0, 1) := by decide +kernel
theorem dX8_isQuiet_30 : decode cX8_isQuiet 30 = .ok (.iload_n 1, 1) := by decide +kernel
theorem dX8_isQuiet_31 : decode cX8_isQuiet 31 = .ok (.iconst 4, 1) := by decide +kernel
theorem dX8_isQuiet_32 : decode cX8_isQuiet 32 = .ok (.invokevirtual 80, 3) := by decide +kernel
theorem dX8_isQuiet_35 : decode cX8_isQuiet 35 = .ok (.invokestatic 84, 3) := by decide +kernel
theorem dX8_isQuiet_38 : decode cX8_isQuiet 38 = .ok (.iconst 3, 1) := by decide +kernel
theorem dX8_isQuiet_39 : decode cX8_isQuiet 39 = .ok (.if_icmp .gt 20, 3) := by decide +kernel
theorem dX8_isQuiet_42 : decode cX8_isQuiet 42 = .ok (.aload_n 0, 1) := by decide +kernel
theorem dX8_isQuiet_43 : decode cX8_isQuiet 43 = .ok (.iload_n 1, 1) := by decide +kernel
theorem dX8_isQuiet_44 : decode cX8_isQuiet 44 = .ok (.iconst 5, 1) := by decide +kernel
theorem dX8_isQuiet_45 : decode cX8_isQuiet 45 = .ok (.invokevirtual 80, 3) := by decide +kernel
theorem dX8_isQuiet_48 : decode cX8_isQuiet 48 = .ok (.invokestatic 84, 3) := by decide +kernel
theorem dX8_isQuiet_51 : decode cX8_isQuiet 51 = .ok (.iconst 2, 1) := by decide +kernel
theorem dX8_isQuiet_52 : decode cX8_isQuiet 52 = .ok (.if_icmp .gt 7, 3) := by decide +kernel
theorem dX8_isQuiet_55 : decode cX8_isQuiet 55 = .ok (.iconst 1, 1) := by decide +kernel
theorem dX8_isQuiet_56 : decode cX8_isQuiet 56 = .ok (.goto 4, 3) := by decide +kernel
theorem dX8_isQuiet_59 : decode cX8_isQuiet 59 = .ok (.iconst 0, 1) := by decide +kernel
theorem dX8_isQuiet_60 : decode cX8_isQuiet 60 = .ok (.istore_n 2, 1) := by decide +kernel
theorem dX8_isQuiet_61 : decode cX8_isQuiet 61 = .ok (.iload_n 2, 1) := by decide +kernel
theorem dX8_isQuiet_62 : decode cX8_isQuiet 62 = .ok (.ifCond .eq 7, 3) := by decide +kernel
theorem dX8_isQuiet_65 : decode cX8_isQuiet 65 = .ok (.iconst 1, 1) := by decide +kernel
theorem dX8_isQuiet_66 : decode cX8_isQuiet 66 = .ok (.goto 4, 3) := by decide +kernel
theorem dX8_isQuiet_69 : decode cX8_isQuiet 69 = .ok (.iconst 0, 1) := by decide +kernel
theorem dX8_isQuiet_70 : decode cX8_isQuiet 70 = .ok (.ireturn, 1) := by decide +kernel
set_option maxRecDepth 20000 in
theorem ggX8_crane_X8_isCrane : GoodIn wsX8_crane wsX8_isCrane := goodIn_r _ [5] (by decide +kernel) (by decide +kernel)
set_option maxRecDepth 20000 in
theorem gX8_crane_X8_isCrane : GoodIn wsX8_crane (va_wsS RX8 148 yX8_isCrane wsX8_isCrane) := goodIn_app (goodIn_of _ (by decide +kernel)) ggX8_crane_X8_isCrane
set_option maxRecDepth 20000 in
theorem ggX8_crane_X8_of : GoodIn wsX8_crane wsX8_of := goodIn_r _ [9, 10, 29, 30, 31, 32, 33, 34, 35, 36, 37] (by decide +kernel) (by decide +kernel)
set_option maxRecDepth 20000 in
theorem gX8_crane_X8_of : GoodIn wsX8_crane (wsV RX8 80 RX8 yX8_of wsX8_of) := goodIn_app (goodIn_of _ (by decide +kernel)) ggX8_crane_X8_of
set_option maxRecDepth 20000 in
theorem ggX8_crane_X8_limitOf : GoodIn wsX8_crane wsX8_limitOf := goodIn_r _ [14, 10, 6, 7, 8, 4, 9, 29, 30, 31, 32, 33, 34, 35, 36, 37] (by decide +kernel) (by decide +kernel)
set_option maxRecDepth 20000 in
theorem gX8_crane_X8_limitOf : GoodIn wsX8_crane (wsV RX8 92 RX8 yX8_limitOf wsX8_limitOf) := goodIn_app (goodIn_of _ (by decide +kernel)) ggX8_crane_X8_limitOf
set_option maxRecDepth 20000 in
theorem ggX8_crane_X8_stopBy : GoodIn wsX8_crane wsX8_stopBy := goodIn_r _ [18, 10, 19, 20, 4, 21, 29, 30, 31, 32, 33, 34, 35, 36, 37] (by decide +kernel) (by decide +kernel)
set_option maxRecDepth 20000 in
theorem gX8_crane_X8_stopBy : GoodIn wsX8_crane (wsV RX8 101 RX8 yX8_stopBy wsX8_stopBy) := goodIn_app (goodIn_of _ (by decide +kernel)) ggX8_crane_X8_stopBy
set_option maxRecDepth 20000 in
theorem ggX8_crane_X8_halfOf : GoodIn wsX8_crane wsX8_halfOf := goodIn_r _ [24] (by decide +kernel) (by decide +kernel)
set_option maxRecDepth 20000 in
theorem gX8_crane_X8_halfOf : GoodIn wsX8_crane (va_wsS RX8 155 yX8_halfOf wsX8_halfOf) := goodIn_app (goodIn_of _ (by decide +kernel)) ggX8_crane_X8_halfOf
set_option maxRecDepth 20000 in
theorem ggX8_crane_X8_isQuiet : GoodIn wsX8_crane wsX8_isQuiet := goodIn_r _ [28, 6, 7, 8, 4, 9, 10, 19, 20, 21, 29, 30, 31, 32, 33, 34, 35, 36, 37] (by decide +kernel) (by decide +kernel)
set_option maxRecDepth 20000 in
theorem gX8_crane_X8_isQuiet : GoodIn wsX8_crane (wsV RX8 162 RX8 yX8_isQuiet wsX8_isQuiet) := goodIn_app (goodIn_of _ (by decide +kernel)) ggX8_crane_X8_isQuiet
theorem dX8_crane_0 : decode cX8_crane 0 = .ok (.iload_n 1, 1) := by decide +kernel
theorem dX8_crane_1 : decode cX8_crane 1 = .ok (.invokestatic 148, 3) := by decide +kernel
theorem dX8_crane_4 : decode cX8_crane 4 = .ok (.ifCond .ne 5, 3) := by decide +kernel
theorem dX8_crane_7 : decode cX8_crane 7 = .ok (.iconst (-1), 1) := by decide +kernel
theorem dX8_crane_8 : decode cX8_crane 8 = .ok (.ireturn, 1) := by decide +kernel
theorem dX8_crane_9 : decode cX8_crane 9 = .ok (.iload_n 2, 1) := by decide +kernel
theorem dX8_crane_10 : decode cX8_crane 10 = .ok (.tableswitch 132 0 12 #[66, 73, 66, 66, 73, 73, 73, 83, 91, 97, 105, 116, 126], 66) := by decide +kernel
theorem dX8_crane_76 : decode cX8_crane 76 = .ok (.aload_n 0, 1) := by decide +kernel
theorem dX8_crane_77 : decode cX8_crane 77 = .ok (.iload_n 1, 1) := by decide +kernel
theorem dX8_crane_78 : decode cX8_crane 78 = .ok (.iload_n 2, 1) := by decide +kernel
theorem dX8_crane_79 : decode cX8_crane 79 = .ok (.invokevirtual 80, 3) := by decide +kernel
theorem dX8_crane_82 : decode cX8_crane 82 = .ok (.ireturn, 1) := by decide +kernel
theorem dX8_crane_83 : decode cX8_crane 83 = .ok (.aload_n 0, 1) := by decide +kernel
theorem dX8_crane_84 : decode cX8_crane 84 = .ok (.iload_n 1, 1) := by decide +kernel
theorem dX8_crane_85 : decode cX8_crane 85 = .ok (.iload_n 2, 1) := by decide +kernel
theorem dX8_crane_86 : decode cX8_crane 86 = .ok (.invokevirtual 80, 3) := by decide +kernel
theorem dX8_crane_89 : decode cX8_crane 89 = .ok (.ldc 161, 2) := by decide +kernel
theorem dX8_crane_91 : decode cX8_crane 91 = .ok (.iadd, 1) := by decide +kernel
theorem dX8_crane_92 : decode cX8_crane 92 = .ok (.ireturn, 1) := by decide +kernel
theorem dX8_crane_93 : decode cX8_crane 93 = .ok (.aload_n 0, 1) := by decide +kernel
theorem dX8_crane_94 : decode cX8_crane 94 = .ok (.iload_n 1, 1) := by decide +kernel
theorem dX8_crane_95 : decode cX8_crane 95 = .ok (.bipush 7, 2) := by decide +kernel
theorem dX8_crane_97 : decode cX8_crane 97 = .ok (.invokevirtual 80, 3) := by decide +kernel
theorem dX8_crane_100 : decode cX8_crane 100 = .ok (.ireturn, 1) := by decide +kernel
theorem dX8_crane_101 : decode cX8_crane 101 = .ok (.aload_n 0, 1) := by decide +kernel
theorem dX8_crane_102 : decode cX8_crane 102 = .ok (.iload_n 1, 1) := by decide +kernel
theorem dX8_crane_103 : decode cX8_crane 103 = .ok (.invokevirtual 92, 3) := by decide +kernel
theorem dX8_crane_106 : decode cX8_crane 106 = .ok (.ireturn, 1) := by decide +kernel
theorem dX8_crane_107 : decode cX8_crane 107 = .ok (.aload_n 0, 1) := by decide +kernel
theorem dX8_crane_108 : decode cX8_crane 108 = .ok (.iload_n 1, 1) := by decide +kernel
theorem dX8_crane_109 : decode cX8_crane 109 = .ok (.bipush 8, 2) := by decide +kernel
theorem dX8_crane_111 : decode cX8_crane 111 = .ok (.invokevirtual 80, 3) := by decide +kernel
theorem dX8_crane_114 : decode cX8_crane 114 = .ok (.ireturn, 1) := by decide +kernel
theorem dX8_crane_115 : decode cX8_crane 115 = .ok (.aload_n 0, 1) := by decide +kernel
theorem dX8_crane_116 : decode cX8_crane 116 = .ok (.aload_n 0, 1) := by decide +kernel
theorem dX8_crane_117 : decode cX8_crane 117 = .ok (.iload_n 1, 1) := by decide +kernel
theorem dX8_crane_118 : decode cX8_crane 118 = .ok (.iconst 1, 1) := by decide +kernel
theorem dX8_crane_119 : decode cX8_crane 119 = .ok (.invokevirtual 80, 3) := by decide +kernel
theorem dX8_crane_122 : decode cX8_crane 122 = .ok (.invokevirtual 101, 3) := by decide +kernel
theorem dX8_crane_125 : decode cX8_crane 125 = .ok (.ireturn, 1) := by decide +kernel
theorem dX8_crane_126 : decode cX8_crane 126 = .ok (.aload_n 0, 1) := by decide +kernel
theorem dX8_crane_127 : decode cX8_crane 127 = .ok (.iload_n 1, 1) := by decide +kernel
theorem dX8_crane_128 : decode cX8_crane 128 = .ok (.iconst 2, 1) := by decide +kernel
theorem dX8_crane_129 : decode cX8_crane 129 = .ok (.invokevirtual 80, 3) := by decide +kernel
theorem dX8_crane_132 : decode cX8_crane 132 = .ok (.invokestatic 155, 3) := by decide +kernel
theorem dX8_crane_135 : decode cX8_crane 135 = .ok (.ireturn, 1) := by decide +kernel
theorem dX8_crane_136 : decode cX8_crane 136 = .ok (.aload_n 0, 1) := by decide +kernel
theorem dX8_crane_137 : decode cX8_crane 137 = .ok (.iload_n 1, 1) := by decide +kernel
theorem dX8_crane_138 : decode cX8_crane 138 = .ok (.invokevirtual 162, 3) := by decide +kernel
theorem dX8_crane_141 : decode cX8_crane 141 = .ok (.ireturn, 1) := by decide +kernel
theorem dX8_crane_142 : decode cX8_crane 142 = .ok (.iconst (-1), 1) := by decide +kernel
theorem dX8_crane_143 : decode cX8_crane 143 = .ok (.ireturn, 1) := by decide +kernel
set_option maxRecDepth 20000 in
theorem ggX8_stepOf_X8_isCrane : GoodIn wsX8_stepOf wsX8_isCrane := goodIn_r _ [6] (by decide +kernel) (by decide +kernel)
set_option maxRecDepth 20000 in
theorem gX8_stepOf_X8_isCrane : GoodIn wsX8_stepOf (va_wsS RX8 148 yX8_isCrane wsX8_isCrane) := goodIn_app (goodIn_of _ (by decide +kernel)) ggX8_stepOf_X8_isCrane
set_option maxRecDepth 20000 in
theorem ggX8_stepOf_X8_in : GoodIn wsX8_stepOf wsX8_in := goodIn_r _ [9] (by decide +kernel) (by decide +kernel)
set_option maxRecDepth 20000 in
theorem gX8_stepOf_X8_in : GoodIn wsX8_stepOf (va_wsS RX8 48 yX8_in wsX8_in) := goodIn_app (goodIn_of _ (by decide +kernel)) ggX8_stepOf_X8_in
set_option maxRecDepth 20000 in
theorem ggX8_stepOf_X8_of : GoodIn wsX8_stepOf wsX8_of := goodIn_r _ [13, 1, 14, 15, 16, 17, 18, 19, 20, 21, 22] (by decide +kernel) (by decide +kernel)
set_option maxRecDepth 20000 in
theorem gX8_stepOf_X8_of : GoodIn wsX8_stepOf (wsV RX8 80 RX8 yX8_of wsX8_of) := goodIn_app (goodIn_of _ (by decide +kernel)) ggX8_stepOf_X8_of
theorem dX8_stepOf_0 : decode cX8_stepOf 0 = .ok (.iload_n 1, 1) := by decide +kernel
theorem dX8_stepOf_1 : decode cX8_stepOf 1 = .ok (.invokestatic 148, 3) := by decide +kernel
theorem dX8_stepOf_4 : decode cX8_stepOf 4 = .ok (.ifCond .eq 16, 3) := by decide +kernel
theorem dX8_stepOf_7 : decode cX8_stepOf 7 = .ok (.iload_n 2, 1) := by decide +kernel
theorem dX8_stepOf_8 : decode cX8_stepOf 8 = .ok (.ifCond .lt 12, 3) := by decide +kernel
theorem dX8_stepOf_11 : decode cX8_stepOf 11 = .ok (.iload_n 3, 1) := by decide +kernel
theorem dX8_stepOf_12 : decode cX8_stepOf 12 = .ok (.iconst 0, 1) := by decide +kernel
theorem dX8_stepOf_13 : decode cX8_stepOf 13 = .ok (.iconst 1, 1) := by decide +kernel
theorem dX8_stepOf_14 : decode cX8_stepOf 14 = .ok (.invokestatic 48, 3) := by decide +kernel
theorem dX8_stepOf_17 : decode cX8_stepOf 17 = .ok (.ifCond .ne 5, 3) := by decide +kernel
theorem dX8_stepOf_20 : decode cX8_stepOf 20 = .ok (.iconst (-1), 1) := by decide +kernel
theorem dX8_stepOf_21 : decode cX8_stepOf 21 = .ok (.ireturn, 1) := by decide +kernel
theorem dX8_stepOf_22 : decode cX8_stepOf 22 = .ok (.iload_n 2, 1) := by decide +kernel
theorem dX8_stepOf_23 : decode cX8_stepOf 23 = .ok (.aload_n 0, 1) := by decide +kernel
theorem dX8_stepOf_24 : decode cX8_stepOf 24 = .ok (.iload_n 1, 1) := by decide +kernel
theorem dX8_stepOf_25 : decode cX8_stepOf 25 = .ok (.bipush 8, 2) := by decide +kernel
theorem dX8_stepOf_27 : decode cX8_stepOf 27 = .ok (.invokevirtual 80, 3) := by decide +kernel
theorem dX8_stepOf_30 : decode cX8_stepOf 30 = .ok (.if_icmp .lt 6, 3) := by decide +kernel
theorem dX8_stepOf_33 : decode cX8_stepOf 33 = .ok (.bipush (-4), 2) := by decide +kernel
theorem dX8_stepOf_35 : decode cX8_stepOf 35 = .ok (.ireturn, 1) := by decide +kernel
theorem dX8_stepOf_36 : decode cX8_stepOf 36 = .ok (.iload_n 3, 1) := by decide +kernel
theorem dX8_stepOf_37 : decode cX8_stepOf 37 = .ok (.ifCond .ne 25, 3) := by decide +kernel
theorem dX8_stepOf_40 : decode cX8_stepOf 40 = .ok (.aload_n 0, 1) := by decide +kernel
theorem dX8_stepOf_41 : decode cX8_stepOf 41 = .ok (.iload_n 1, 1) := by decide +kernel
theorem dX8_stepOf_42 : decode cX8_stepOf 42 = .ok (.bipush 9, 2) := by decide +kernel
theorem dX8_stepOf_44 : decode cX8_stepOf 44 = .ok (.iconst 2, 1) := by decide +kernel
theorem dX8_stepOf_45 : decode cX8_stepOf 45 = .ok (.iload_n 2, 1) := by decide +kernel
theorem dX8_stepOf_46 : decode cX8_stepOf 46 = .ok (.imul, 1) := by decide +kernel
theorem dX8_stepOf_47 : decode cX8_stepOf 47 = .ok (.iadd, 1) := by decide +kernel
theorem dX8_stepOf_48 : decode cX8_stepOf 48 = .ok (.invokevirtual 80, 3) := by decide +kernel
theorem dX8_stepOf_51 : decode cX8_stepOf 51 = .ok (.aload_n 0, 1) := by decide +kernel
theorem dX8_stepOf_52 : decode cX8_stepOf 52 = .ok (.getfield 7, 3) := by decide +kernel
theorem dX8_stepOf_55 : decode cX8_stepOf 55 = .ok (.bipush 6, 2) := by decide +kernel
theorem dX8_stepOf_57 : decode cX8_stepOf 57 = .ok (.iaload, 1) := by decide +kernel
theorem dX8_stepOf_58 : decode cX8_stepOf 58 = .ok (.isub, 1) := by decide +kernel
theorem dX8_stepOf_59 : decode cX8_stepOf 59 = .ok (.goto 19, 3) := by decide +kernel
theorem dX8_stepOf_62 : decode cX8_stepOf 62 = .ok (.aload_n 0, 1) := by decide +kernel
theorem dX8_stepOf_63 : decode cX8_stepOf 63 = .ok (.iload_n 1, 1) := by decide +kernel
theorem dX8_stepOf_64 : decode cX8_stepOf 64 = .ok (.bipush 9, 2) := by decide +kernel
theorem dX8_stepOf_66 : decode cX8_stepOf 66 = .ok (.iconst 2, 1) := by decide +kernel
theorem dX8_stepOf_67 : decode cX8_stepOf 67 = .ok (.iload_n 2, 1) := by decide +kernel
theorem dX8_stepOf_68 : decode cX8_stepOf 68 = .ok (.imul, 1) := by decide +kernel
theorem dX8_stepOf_69 : decode cX8_stepOf 69 = .ok (.iadd, 1) := by decide +kernel
theorem dX8_stepOf_70 : decode cX8_stepOf 70 = .ok (.iconst 1, 1) := by decide +kernel
theorem dX8_stepOf_71 : decode cX8_stepOf 71 = .ok (.iadd, 1) := by decide +kernel
theorem dX8_stepOf_72 : decode cX8_stepOf 72 = .ok (.invokevirtual 80, 3) := by decide +kernel
theorem dX8_stepOf_75 : decode cX8_stepOf 75 = .ok (.ldc 161, 2) := by decide +kernel
theorem dX8_stepOf_77 : decode cX8_stepOf 77 = .ok (.iadd, 1) := by decide +kernel
theorem dX8_stepOf_78 : decode cX8_stepOf 78 = .ok (.ireturn, 1) := by decide +kernel
set_option maxRecDepth 20000 in
theorem ggX8_stop_X8_in : GoodIn wsX8_stop wsX8_in := goodIn_r _ [4] (by decide +kernel) (by decide +kernel)
set_option maxRecDepth 20000 in
theorem gX8_stop_X8_in : GoodIn wsX8_stop (va_wsS RX8 48 yX8_in wsX8_in) := goodIn_app (goodIn_of _ (by decide +kernel)) ggX8_stop_X8_in
set_option maxRecDepth 20000 in
theorem ggX8_stop_X8_stopBy : GoodIn wsX8_stop wsX8_stopBy := goodIn_r _ [8, 9, 10, 11, 3, 12, 13, 14, 15, 16, 17, 18, 19, 20, 21] (by decide +kernel) (by decide +kernel)
set_option maxRecDepth 20000 in
theorem gX8_stop_X8_stopBy : GoodIn wsX8_stop (wsV RX8 101 RX8 yX8_stopBy wsX8_stopBy) := goodIn_app (goodIn_of _ (by decide +kernel)) ggX8_stop_X8_stopBy
theorem dX8_stop_0 : decode cX8_stop 0 = .ok (.iload_n 1, 1) := by decide +kernel
theorem dX8_stop_1 : decode cX8_stop 1 = .ok (.bipush (-40), 2) := by decide +kernel
theorem dX8_stop_3 : decode cX8_stop 3 = .ok (.bipush 40, 2) := by decide +kernel
theorem dX8_stop_5 : decode cX8_stop 5 = .ok (.invokestatic 48, 3) := by decide +kernel
theorem dX8_stop_8 : decode cX8_stop 8 = .ok (.ifCond .eq 11, 3) := by decide +kernel
theorem dX8_stop_11 : decode cX8_stop 11 = .ok (.aload_n 0, 1) := by decide +kernel
theorem dX8_stop_12 : decode cX8_stop 12 = .ok (.iload_n 1, 1) := by decide +kernel
theorem dX8_stop_13 : decode cX8_stop 13 = .ok (.invokevirtual 101, 3) := by decide +kernel
theorem dX8_stop_16 : decode cX8_stop 16 = .ok (.goto 4, 3) := by decide +kernel
theorem dX8_stop_19 : decode cX8_stop 19 = .ok (.iconst (-1), 1) := by decide +kernel
theorem dX8_stop_20 : decode cX8_stop 20 = .ok (.ireturn, 1) := by decide +kernel
set_option maxRecDepth 20000 in
theorem ggX8_half_X8_in : GoodIn wsX8_half wsX8_in := goodIn_r _ [4] (by decide +kernel) (by decide +kernel)
set_option maxRecDepth 20000 in
theorem gX8_half_X8_in : GoodIn wsX8_half (va_wsS RX8 48 yX8_in wsX8_in) := goodIn_app (goodIn_of _ (by decide +kernel)) ggX8_half_X8_in
set_option maxRecDepth 20000 in
theorem ggX8_half_X8_halfOf : GoodIn wsX8_half wsX8_halfOf := goodIn_r _ [7] (by decide +kernel) (by decide +kernel)
set_option maxRecDepth 20000 in
theorem gX8_half_X8_halfOf : GoodIn wsX8_half (va_wsS RX8 155 yX8_halfOf wsX8_halfOf) := goodIn_app (goodIn_of _ (by decide +kernel)) ggX8_half_X8_halfOf
theorem dX8_half_0 : decode cX8_half 0 = .ok (.iload_n 1, 1) := by decide +kernel
theorem dX8_half_1 : decode cX8_half 1 = .ok (.bipush 10, 2) := by decide +kernel
theorem dX8_half_3 : decode cX8_half 3 = .ok (.bipush 60, 2) := by decide +kernel
theorem dX8_half_5 : decode cX8_half 5 = .ok (.invokestatic 48, 3) := by decide +kernel
theorem dX8_half_8 : decode cX8_half 8 = .ok (.ifCond .eq 10, 3) := by decide +kernel
theorem dX8_half_11 : decode cX8_half 11 = .ok (.iload_n 1, 1) := by decide +kernel
theorem dX8_half_12 : decode cX8_half 12 = .ok (.invokestatic 155, 3) := by decide +kernel
theorem dX8_half_15 : decode cX8_half 15 = .ok (.goto 4, 3) := by decide +kernel
theorem dX8_half_18 : decode cX8_half 18 = .ok (.iconst (-1), 1) := by decide +kernel
theorem dX8_half_19 : decode cX8_half 19 = .ok (.ireturn, 1) := by decide +kernel
set_option maxRecDepth 20000 in
theorem ggX8_spot_X8_isCrane : GoodIn wsX8_spot wsX8_isCrane := goodIn_r _ [5] (by decide +kernel) (by decide +kernel)
set_option maxRecDepth 20000 in
theorem gX8_spot_X8_isCrane : GoodIn wsX8_spot (va_wsS RX8 148 yX8_isCrane wsX8_isCrane) := goodIn_app (goodIn_of _ (by decide +kernel)) ggX8_spot_X8_isCrane
set_option maxRecDepth 20000 in
theorem ggX8_spot_X8_in : GoodIn wsX8_spot wsX8_in := goodIn_r _ [8] (by decide +kernel) (by decide +kernel)
set_option maxRecDepth 20000 in
theorem gX8_spot_X8_in : GoodIn wsX8_spot (va_wsS RX8 48 yX8_in wsX8_in) := goodIn_app (goodIn_of _ (by decide +kernel)) ggX8_spot_X8_in
set_option maxRecDepth 20000 in
theorem ggX8_spot_X8_spotPlace : GoodIn wsX8_spot wsX8_spotPlace := goodIn_r _ [11] (by decide +kernel) (by decide +kernel)
set_option maxRecDepth 20000 in
theorem gX8_spot_X8_spotPlace : GoodIn wsX8_spot (va_wsS RX8 124 yX8_spotPlace wsX8_spotPlace) := goodIn_app (goodIn_of _ (by decide +kernel)) ggX8_spot_X8_spotPlace
theorem dX8_spot_0 : decode cX8_spot 0 = .ok (.iload_n 1, 1) := by decide +kernel
theorem dX8_spot_1 : decode cX8_spot 1 = .ok (.invokestatic 148, 3) := by decide +kernel
theorem dX8_spot_4 : decode cX8_spot 4 = .ok (.ifCond .eq 17, 3) := by decide +kernel
theorem dX8_spot_7 : decode cX8_spot 7 = .ok (.iload_n 2, 1) := by decide +kernel
theorem dX8_spot_8 : decode cX8_spot 8 = .ok (.iconst (-1), 1) := by decide +kernel
theorem dX8_spot_9 : decode cX8_spot 9 = .ok (.if_icmp .lt 12, 3) := by decide +kernel
theorem dX8_spot_12 : decode cX8_spot 12 = .ok (.iload_n 3, 1) := by decide +kernel
theorem dX8_spot_13 : decode cX8_spot 13 = .ok (.iconst 0, 1) := by decide +kernel
theorem dX8_spot_14 : decode cX8_spot 14 = .ok (.iconst 2, 1) := by decide +kernel
theorem dX8_spot_15 : decode cX8_spot 15 = .ok (.invokestatic 48, 3) := by decide +kernel
theorem dX8_spot_18 : decode cX8_spot 18 = .ok (.ifCond .ne 5, 3) := by decide +kernel
theorem dX8_spot_21 : decode cX8_spot 21 = .ok (.iconst (-1), 1) := by decide +kernel
theorem dX8_spot_22 : decode cX8_spot 22 = .ok (.ireturn, 1) := by decide +kernel
theorem dX8_spot_23 : decode cX8_spot 23 = .ok (.iload_n 1, 1) := by decide +kernel
theorem dX8_spot_24 : decode cX8_spot 24 = .ok (.invokestatic 124, 3) := by decide +kernel
theorem dX8_spot_27 : decode cX8_spot 27 = .ok (.istore 4, 2) := by decide +kernel
theorem dX8_spot_29 : decode cX8_spot 29 = .ok (.iload_n 2, 1) := by decide +kernel
theorem dX8_spot_30 : decode cX8_spot 30 = .ok (.ifCond .ge 11, 3) := by decide +kernel
theorem dX8_spot_33 : decode cX8_spot 33 = .ok (.aload_n 0, 1) := by decide +kernel
theorem dX8_spot_34 : decode cX8_spot 34 = .ok (.getfield 7, 3) := by decide +kernel
theorem dX8_spot_37 : decode cX8_spot 37 = .ok (.iload 4, 2) := by decide +kernel
theorem dX8_spot_39 : decode cX8_spot 39 = .ok (.iaload, 1) := by decide +kernel
theorem dX8_spot_40 : decode cX8_spot 40 = .ok (.ireturn, 1) := by decide +kernel
theorem dX8_spot_41 : decode cX8_spot 41 = .ok (.iload_n 2, 1) := by decide +kernel
theorem dX8_spot_42 : decode cX8_spot 42 = .ok (.aload_n 0, 1) := by decide +kernel
theorem dX8_spot_43 : decode cX8_spot 43 = .ok (.getfield 7, 3) := by decide +kernel
theorem dX8_spot_46 : decode cX8_spot 46 = .ok (.iload 4, 2) := by decide +kernel
theorem dX8_spot_48 : decode cX8_spot 48 = .ok (.iaload, 1) := by decide +kernel
theorem dX8_spot_49 : decode cX8_spot 49 = .ok (.if_icmp .lt 6, 3) := by decide +kernel
theorem dX8_spot_52 : decode cX8_spot 52 = .ok (.bipush (-4), 2) := by decide +kernel
theorem dX8_spot_54 : decode cX8_spot 54 = .ok (.ireturn, 1) := by decide +kernel
theorem dX8_spot_55 : decode cX8_spot 55 = .ok (.aload_n 0, 1) := by decide +kernel
theorem dX8_spot_56 : decode cX8_spot 56 = .ok (.getfield 7, 3) := by decide +kernel
theorem dX8_spot_59 : decode cX8_spot 59 = .ok (.iload 4, 2) := by decide +kernel
theorem dX8_spot_61 : decode cX8_spot 61 = .ok (.iconst 1, 1) := by decide +kernel
theorem dX8_spot_62 : decode cX8_spot 62 = .ok (.iadd, 1) := by decide +kernel
theorem dX8_spot_63 : decode cX8_spot 63 = .ok (.iload_n 2, 1) := by decide +kernel
theorem dX8_spot_64 : decode cX8_spot 64 = .ok (.iadd, 1) := by decide +kernel
theorem dX8_spot_65 : decode cX8_spot 65 = .ok (.iaload, 1) := by decide +kernel
theorem dX8_spot_66 : decode cX8_spot 66 = .ok (.istore 5, 2) := by decide +kernel
theorem dX8_spot_68 : decode cX8_spot 68 = .ok (.iload_n 3, 1) := by decide +kernel
theorem dX8_spot_69 : decode cX8_spot 69 = .ok (.ifCond .ne 11, 3) := by decide +kernel
theorem dX8_spot_72 : decode cX8_spot 72 = .ok (.iload 5, 2) := by decide +kernel
theorem dX8_spot_74 : decode cX8_spot 74 = .ok (.bipush 100, 2) := by decide +kernel
theorem dX8_spot_76 : decode cX8_spot 76 = .ok (.idiv, 1) := by decide +kernel
theorem dX8_spot_77 : decode cX8_spot 77 = .ok (.goto 30, 3) := by decide +kernel
theorem dX8_spot_80 : decode cX8_spot 80 = .ok (.iload_n 3, 1) := by decide +kernel
theorem dX8_spot_81 : decode cX8_spot 81 = .ok (.iconst 1, 1) := by decide +kernel
theorem dX8_spot_82 : decode cX8_spot 82 = .ok (.if_icmp .ne 11, 3) := by decide +kernel
theorem dX8_spot_85 : decode cX8_spot 85 = .ok (.iload 5, 2) := by decide +kernel
theorem dX8_spot_87 : decode cX8_spot 87 = .ok (.bipush 100, 2) := by decide +kernel
theorem dX8_spot_89 : decode cX8_spot 89 = .ok (.irem, 1) := by decide +kernel
theorem dX8_spot_90 : decode cX8_spot 90 = .ok (.goto 17, 3) := by decide +kernel
theorem dX8_spot_93 : decode cX8_spot 93 = .ok (.aload_n 0, 1) := by decide +kernel
theorem dX8_spot_94 : decode cX8_spot 94 = .ok (.getfield 7, 3) := by decide +kernel
theorem dX8_spot_97 : decode cX8_spot 97 = .ok (.iload 4, 2) := by decide +kernel
theorem dX8_spot_99 : decode cX8_spot 99 = .ok (.iconst 1, 1) := by decide +kernel
theorem dX8_spot_100 : decode cX8_spot 100 = .ok (.iadd, 1) := by decide +kernel
theorem dX8_spot_101 : decode cX8_spot 101 = .ok (.bipush 120, 2) := by decide +kernel
theorem dX8_spot_103 : decode cX8_spot 103 = .ok (.iadd, 1) := by decide +kernel
theorem dX8_spot_104 : decode cX8_spot 104 = .ok (.iload_n 2, 1) := by decide +kernel
theorem dX8_spot_105 : decode cX8_spot 105 = .ok (.iadd, 1) := by decide +kernel
theorem dX8_spot_106 : decode cX8_spot 106 = .ok (.iaload, 1) := by decide +kernel
theorem dX8_spot_107 : decode cX8_spot 107 = .ok (.ireturn, 1) := by decide +kernel
set_option maxRecDepth 20000 in
theorem ggX8_been_X8_isCrane : GoodIn wsX8_been wsX8_isCrane := goodIn_r _ [5] (by decide +kernel) (by decide +kernel)
set_option maxRecDepth 20000 in
theorem gX8_been_X8_isCrane : GoodIn wsX8_been (va_wsS RX8 148 yX8_isCrane wsX8_isCrane) := goodIn_app (goodIn_of _ (by decide +kernel)) ggX8_been_X8_isCrane
set_option maxRecDepth 20000 in
theorem ggX8_been_X8_in : GoodIn wsX8_been wsX8_in := goodIn_r _ [8] (by decide +kernel) (by decide +kernel)
set_option maxRecDepth 20000 in
theorem gX8_been_X8_in : GoodIn wsX8_been (va_wsS RX8 48 yX8_in wsX8_in) := goodIn_app (goodIn_of _ (by decide +kernel)) ggX8_been_X8_in
set_option maxRecDepth 20000 in
theorem ggX8_been_X8_spotPlace : GoodIn wsX8_been wsX8_spotPlace := goodIn_r _ [11] (by decide +kernel) (by decide +kernel)
set_option maxRecDepth 20000 in
theorem gX8_been_X8_spotPlace : GoodIn wsX8_been (va_wsS RX8 124 yX8_spotPlace wsX8_spotPlace) := goodIn_app (goodIn_of _ (by decide +kernel)) ggX8_been_X8_spotPlace
set_option maxRecDepth 20000 in
theorem ggX8_been_X8_spotIndex : GoodIn wsX8_been wsX8_spotIndex := goodIn_r _ [15, 1, 9, 10, 4, 11, 16, 17, 18, 19, 20, 21, 22, 23, 24] (by decide +kernel) (by decide +kernel)
set_option maxRecDepth 20000 in
theorem gX8_been_X8_spotIndex : GoodIn wsX8_been (wsV RX8 130 RX8 yX8_spotIndex wsX8_spotIndex) := goodIn_app (goodIn_of _ (by decide +kernel)) ggX8_been_X8_spotIndex
theorem dX8_been_0 : decode cX8_been 0 = .ok (.iload_n 1, 1) := by decide +kernel
theorem dX8_been_1 : decode cX8_been 1 = .ok (.invokestatic 148, 3) := by decide +kernel
theorem dX8_been_4 : decode cX8_been 4 = .ok (.ifCond .eq 23, 3) := by decide +kernel
theorem dX8_been_7 : decode cX8_been 7 = .ok (.iload_n 2, 1) := by decide +kernel
theorem dX8_been_8 : decode cX8_been 8 = .ok (.iconst 0, 1) := by decide +kernel
theorem dX8_been_9 : decode cX8_been 9 = .ok (.bipush 99, 2) := by decide +kernel
theorem dX8_been_11 : decode cX8_been 11 = .ok (.invokestatic 48, 3) := by decide +kernel
theorem dX8_been_14 : decode cX8_been 14 = .ok (.ifCond .eq 13, 3) := by decide +kernel
theorem dX8_been_17 : decode cX8_been 17 = .ok (.iload_n 3, 1) := by decide +kernel
theorem dX8_been_18 : decode cX8_been 18 = .ok (.iconst 0, 1) := by decide +kernel
theorem dX8_been_19 : decode cX8_been 19 = .ok (.bipush 99, 2) := by decide +kernel
theorem dX8_been_21 : decode cX8_been 21 = .ok (.invokestatic 48, 3) := by decide +kernel
theorem dX8_been_24 : decode cX8_been 24 = .ok (.ifCond .ne 5, 3) := by decide +kernel
theorem dX8_been_27 : decode cX8_been 27 = .ok (.iconst (-1), 1) := by decide +kernel
theorem dX8_been_28 : decode cX8_been 28 = .ok (.ireturn, 1) := by decide +kernel
theorem dX8_been_29 : decode cX8_been 29 = .ok (.iload_n 1, 1) := by decide +kernel
theorem dX8_been_30 : decode cX8_been 30 = .ok (.invokestatic 124, 3) := by decide +kernel
theorem dX8_been_33 : decode cX8_been 33 = .ok (.istore 4, 2) := by decide +kernel
theorem dX8_been_35 : decode cX8_been 35 = .ok (.aload_n 0, 1) := by decide +kernel
theorem dX8_been_36 : decode cX8_been 36 = .ok (.iload_n 1, 1) := by decide +kernel
theorem dX8_been_37 : decode cX8_been 37 = .ok (.bipush 100, 2) := by decide +kernel
theorem dX8_been_39 : decode cX8_been 39 = .ok (.iload_n 2, 1) := by decide +kernel
theorem dX8_been_40 : decode cX8_been 40 = .ok (.imul, 1) := by decide +kernel
theorem dX8_been_41 : decode cX8_been 41 = .ok (.iload_n 3, 1) := by decide +kernel
theorem dX8_been_42 : decode cX8_been 42 = .ok (.iadd, 1) := by decide +kernel
theorem dX8_been_43 : decode cX8_been 43 = .ok (.invokevirtual 130, 3) := by decide +kernel
theorem dX8_been_46 : decode cX8_been 46 = .ok (.istore 5, 2) := by decide +kernel
theorem dX8_been_48 : decode cX8_been 48 = .ok (.iload 5, 2) := by decide +kernel
theorem dX8_been_50 : decode cX8_been 50 = .ok (.aload_n 0, 1) := by decide +kernel
theorem dX8_been_51 : decode cX8_been 51 = .ok (.getfield 7, 3) := by decide +kernel
theorem dX8_been_54 : decode cX8_been 54 = .ok (.iload 4, 2) := by decide +kernel
theorem dX8_been_56 : decode cX8_been 56 = .ok (.iaload, 1) := by decide +kernel
theorem dX8_been_57 : decode cX8_been 57 = .ok (.if_icmp .ne 7, 3) := by decide +kernel
theorem dX8_been_60 : decode cX8_been 60 = .ok (.iconst 0, 1) := by decide +kernel
theorem dX8_been_61 : decode cX8_been 61 = .ok (.goto 18, 3) := by decide +kernel
theorem dX8_been_64 : decode cX8_been 64 = .ok (.aload_n 0, 1) := by decide +kernel
theorem dX8_been_65 : decode cX8_been 65 = .ok (.getfield 7, 3) := by decide +kernel
theorem dX8_been_68 : decode cX8_been 68 = .ok (.iload 4, 2) := by decide +kernel
theorem dX8_been_70 : decode cX8_been 70 = .ok (.iconst 1, 1) := by decide +kernel
theorem dX8_been_71 : decode cX8_been 71 = .ok (.iadd, 1) := by decide +kernel
theorem dX8_been_72 : decode cX8_been 72 = .ok (.bipush 120, 2) := by decide +kernel
theorem dX8_been_74 : decode cX8_been 74 = .ok (.iadd, 1) := by decide +kernel
theorem dX8_been_75 : decode cX8_been 75 = .ok (.iload 5, 2) := by decide +kernel
theorem dX8_been_77 : decode cX8_been 77 = .ok (.iadd, 1) := by decide +kernel
theorem dX8_been_78 : decode cX8_been 78 = .ok (.iaload, 1) := by decide +kernel
theorem dX8_been_79 : decode cX8_been 79 = .ok (.ireturn, 1) := by decide +kernel
set_option maxRecDepth 20000 in
theorem ggX8_answer_X8_of : GoodIn wsX8_answer wsX8_of := goodIn_r _ [6, 7, 8, 9, 10, 11, 12, 13, 14, 15, 16] (by decide +kernel) (by decide +kernel)
set_option maxRecDepth 20000 in
theorem gX8_answer_X8_of : GoodIn wsX8_answer (wsV RX8 80 RX8 yX8_of wsX8_of) := goodIn_app (goodIn_of _ (by decide +kernel)) ggX8_answer_X8_of
theorem dX8_answer_0 : decode cX8_answer 0 = .ok (.iload_n 2, 1) := by decide +kernel
theorem dX8_answer_1 : decode cX8_answer 1 = .ok (.tableswitch 71 0 4 #[35, 42, 52, 59, 69], 35) := by decide +kernel
theorem dX8_answer_36 : decode cX8_answer 36 = .ok (.aload_n 0, 1) := by decide +kernel
theorem dX8_answer_37 : decode cX8_answer 37 = .ok (.iload_n 1, 1) := by decide +kernel
theorem dX8_answer_38 : decode cX8_answer 38 = .ok (.iconst 0, 1) := by decide +kernel
theorem dX8_answer_39 : decode cX8_answer 39 = .ok (.invokevirtual 80, 3) := by decide +kernel
theorem dX8_answer_42 : decode cX8_answer 42 = .ok (.ireturn, 1) := by decide +kernel
theorem dX8_answer_43 : decode cX8_answer 43 = .ok (.aload_n 0, 1) := by decide +kernel
theorem dX8_answer_44 : decode cX8_answer 44 = .ok (.iload_n 1, 1) := by decide +kernel
theorem dX8_answer_45 : decode cX8_answer 45 = .ok (.iconst 1, 1) := by decide +kernel
theorem dX8_answer_46 : decode cX8_answer 46 = .ok (.invokevirtual 80, 3) := by decide +kernel
theorem dX8_answer_49 : decode cX8_answer 49 = .ok (.ldc 161, 2) := by decide +kernel
theorem dX8_answer_51 : decode cX8_answer 51 = .ok (.iadd, 1) := by decide +kernel
theorem dX8_answer_52 : decode cX8_answer 52 = .ok (.ireturn, 1) := by decide +kernel
theorem dX8_answer_53 : decode cX8_answer 53 = .ok (.aload_n 0, 1) := by decide +kernel
theorem dX8_answer_54 : decode cX8_answer 54 = .ok (.iload_n 1, 1) := by decide +kernel
theorem dX8_answer_55 : decode cX8_answer 55 = .ok (.iconst 2, 1) := by decide +kernel
theorem dX8_answer_56 : decode cX8_answer 56 = .ok (.invokevirtual 80, 3) := by decide +kernel
theorem dX8_answer_59 : decode cX8_answer 59 = .ok (.ireturn, 1) := by decide +kernel
theorem dX8_answer_60 : decode cX8_answer 60 = .ok (.aload_n 0, 1) := by decide +kernel
theorem dX8_answer_61 : decode cX8_answer 61 = .ok (.iload_n 1, 1) := by decide +kernel
theorem dX8_answer_62 : decode cX8_answer 62 = .ok (.iconst 4, 1) := by decide +kernel
theorem dX8_answer_63 : decode cX8_answer 63 = .ok (.invokevirtual 80, 3) := by decide +kernel
theorem dX8_answer_66 : decode cX8_answer 66 = .ok (.ldc 161, 2) := by decide +kernel
theorem dX8_answer_68 : decode cX8_answer 68 = .ok (.iadd, 1) := by decide +kernel
theorem dX8_answer_69 : decode cX8_answer 69 = .ok (.ireturn, 1) := by decide +kernel
theorem dX8_answer_70 : decode cX8_answer 70 = .ok (.iload_n 3, 1) := by decide +kernel
theorem dX8_answer_71 : decode cX8_answer 71 = .ok (.ireturn, 1) := by decide +kernel
theorem dX8_answer_72 : decode cX8_answer 72 = .ok (.iload 4, 2) := by decide +kernel
theorem dX8_answer_74 : decode cX8_answer 74 = .ok (.ireturn, 1) := by decide +kernel
set_option maxRecDepth 20000 in
theorem ggX8_ahead_X8_in : GoodIn wsX8_ahead wsX8_in := goodIn_r _ [4] (by decide +kernel) (by decide +kernel)
set_option maxRecDepth 20000 in
theorem gX8_ahead_X8_in : GoodIn wsX8_ahead (va_wsS RX8 48 yX8_in wsX8_in) := goodIn_app (goodIn_of _ (by decide +kernel)) ggX8_ahead_X8_in
set_option maxRecDepth 20000 in
theorem ggX8_ahead_X8_isCrane : GoodIn wsX8_ahead wsX8_isCrane := goodIn_r _ [7] (by decide +kernel) (by decide +kernel)
set_option maxRecDepth 20000 in
theorem gX8_ahead_X8_isCrane : GoodIn wsX8_ahead (va_wsS RX8 148 yX8_isCrane wsX8_isCrane) := goodIn_app (goodIn_of _ (by decide +kernel)) ggX8_ahead_X8_isCrane
set_option maxRecDepth 20000 in
theorem ggX8_ahead_X8_laysAside : GoodIn wsX8_ahead wsX8_laysAside := goodIn_r _ [11, 12, 13, 77, 78, 79, 80, 81, 82, 83, 84, 85] (by decide +kernel) (by decide +kernel)
set_option maxRecDepth 20000 in
theorem gX8_ahead_X8_laysAside : GoodIn wsX8_ahead (wsV RX8 165 RX8 yX8_laysAside wsX8_laysAside) := goodIn_app (goodIn_of _ (by decide +kernel)) ggX8_ahead_X8_laysAside
set_option maxRecDepth 20000 in
theorem ggX8_ahead_X8_goesBy : GoodIn wsX8_ahead wsX8_goesBy := goodIn_r _ [17, 13, 18, 19, 20, 3, 21, 22, 23, 24, 25, 26, 27, 28, 29, 30, 31, 32, 33, 34, 35, 36, 37, 38, 39, 40, 41, 42, 43, 44, 45, 46, 47, 48, 49, 50, 51, 52, 53, 54, 55, 56, 57, 58, 59, 60, 61, 62, 63, 64, 65, 66, 67, 77, 78, 79, 80, 81, 82, 83, 84, 85] (by decide +kernel) (by decide +kernel)
set_option maxRecDepth 20000 in
theorem gX8_ahead_X8_goesBy : GoodIn wsX8_ahead (wsV RX8 136 RX8 yX8_goesBy wsX8_goesBy) := goodIn_app (goodIn_of _ (by decide +kernel)) ggX8_ahead_X8_goesBy
set_option maxRecDepth 20000 in
theorem ggX8_ahead_X8_of : GoodIn wsX8_ahead wsX8_of := goodIn_r _ [25, 13, 77, 78, 79, 80, 81, 82, 83, 84, 85] (by decide +kernel) (by decide +kernel)
set_option maxRecDepth 20000 in
theorem gX8_ahead_X8_of : GoodIn wsX8_ahead (wsV RX8 80 RX8 yX8_of wsX8_of) := goodIn_app (goodIn_of _ (by decide +kernel)) ggX8_ahead_X8_of
set_option maxRecDepth 20000 in
theorem ggX8_ahead_X8_size : GoodIn wsX8_ahead wsX8_size := goodIn_r _ [56] (by decide +kernel) (by decide +kernel)
set_option maxRecDepth 20000 in
theorem gX8_ahead_X8_size : GoodIn wsX8_ahead (va_wsS RX8 84 yX8_size wsX8_size) := goodIn_app (goodIn_of _ (by decide +kernel)) ggX8_ahead_X8_size
set_option maxRecDepth 20000 in
theorem ggX8_ahead_X8_answer : GoodIn wsX8_ahead wsX8_answer := goodIn_r _ [71, 72, 22, 23, 24, 3, 25, 13, 77, 78, 79, 80, 81, 82, 83, 84, 85] (by decide +kernel) (by decide +kernel)
set_option maxRecDepth 20000 in
theorem gX8_ahead_X8_answer : GoodIn wsX8_ahead (wsV RX8 168 RX8 yX8_answer wsX8_answer) := goodIn_app (goodIn_of _ (by decide +kernel)) ggX8_ahead_X8_answer
set_option maxRecDepth 20000 in
theorem ggX8_ahead_X8_comesBack : GoodIn wsX8_ahead wsX8_comesBack := goodIn_r _ [76, 13, 12, 77, 78, 79, 80, 81, 82, 83, 84, 85] (by decide +kernel) (by decide +kernel)
set_option maxRecDepth 20000 in
theorem gX8_ahead_X8_comesBack : GoodIn wsX8_ahead (wsV RX8 172 RX8 yX8_comesBack wsX8_comesBack) := goodIn_app (goodIn_of _ (by decide +kernel)) ggX8_ahead_X8_comesBack
theorem dX8_ahead_0 : decode cX8_ahead 0 = .ok (.iload_n 1, 1) := by decide +kernel
theorem dX8_ahead_1 : decode cX8_ahead 1 = .ok (.iconst 1, 1) := by decide +kernel
theorem dX8_ahead_2 : decode cX8_ahead 2 = .ok (.bipush 60, 2) := by decide +kernel
theorem dX8_ahead_4 : decode cX8_ahead 4 = .ok (.invokestatic 48, 3) := by decide +kernel
theorem dX8_ahead_7 : decode cX8_ahead 7 = .ok (.ifCond .eq 19, 3) := by decide +kernel
theorem dX8_ahead_10 : decode cX8_ahead 10 = .ok (.iload_n 2, 1) := by decide +kernel
theorem dX8_ahead_11 : decode cX8_ahead 11 = .ok (.invokestatic 148, 3) := by decide +kernel
theorem dX8_ahead_14 : decode cX8_ahead 14 = .ok (.ifCond .eq 12, 3) := by decide +kernel
theorem dX8_ahead_17 : decode cX8_ahead 17 = .ok (.iload_n 3, 1) := by decide +kernel
theorem dX8_ahead_18 : decode cX8_ahead 18 = .ok (.iconst 0, 1) := by decide +kernel
theorem dX8_ahead_19 : decode cX8_ahead 19 = .ok (.iconst 5, 1) := by decide +kernel
theorem dX8_ahead_20 : decode cX8_ahead 20 = .ok (.invokestatic 48, 3) := by decide +kernel
theorem dX8_ahead_23 : decode cX8_ahead 23 = .ok (.ifCond .ne 5, 3) := by decide +kernel
theorem dX8_ahead_26 : decode cX8_ahead 26 = .ok (.iconst (-1), 1) := by decide +kernel
theorem dX8_ahead_27 : decode cX8_ahead 27 = .ok (.ireturn, 1) := by decide +kernel
theorem dX8_ahead_28 : decode cX8_ahead 28 = .ok (.aload_n 0, 1) := by decide +kernel
theorem dX8_ahead_29 : decode cX8_ahead 29 = .ok (.invokevirtual 165, 3) := by decide +kernel
theorem dX8_ahead_32 : decode cX8_ahead 32 = .ok (.iconst 0, 1) := by decide +kernel
theorem dX8_ahead_33 : decode cX8_ahead 33 = .ok (.istore 4, 2) := by decide +kernel
theorem dX8_ahead_35 : decode cX8_ahead 35 = .ok (.iconst 0, 1) := by decide +kernel
theorem dX8_ahead_36 : decode cX8_ahead 36 = .ok (.istore 5, 2) := by decide +kernel
theorem dX8_ahead_38 : decode cX8_ahead 38 = .ok (.iconst 0, 1) := by decide +kernel
theorem dX8_ahead_39 : decode cX8_ahead 39 = .ok (.istore 6, 2) := by decide +kernel
theorem dX8_ahead_41 : decode cX8_ahead 41 = .ok (.iload 6, 2) := by decide +kernel
theorem dX8_ahead_43 : decode cX8_ahead 43 = .ok (.iload_n 1, 1) := by decide +kernel
theorem dX8_ahead_44 : decode cX8_ahead 44 = .ok (.if_icmp .ge 52, 3) := by decide +kernel
theorem dX8_ahead_47 : decode cX8_ahead 47 = .ok (.iload 5, 2) := by decide +kernel
theorem dX8_ahead_49 : decode cX8_ahead 49 = .ok (.aload_n 0, 1) := by decide +kernel
theorem dX8_ahead_50 : decode cX8_ahead 50 = .ok (.invokevirtual 136, 3) := by decide +kernel
theorem dX8_ahead_53 : decode cX8_ahead 53 = .ok (.iload_n 2, 1) := by decide +kernel
theorem dX8_ahead_54 : decode cX8_ahead 54 = .ok (.ishr, 1) := by decide +kernel
theorem dX8_ahead_55 : decode cX8_ahead 55 = .ok (.iconst 1, 1) := by decide +kernel
theorem dX8_ahead_56 : decode cX8_ahead 56 = .ok (.iand, 1) := by decide +kernel
theorem dX8_ahead_57 : decode cX8_ahead 57 = .ok (.iadd, 1) := by decide +kernel
theorem dX8_ahead_58 : decode cX8_ahead 58 = .ok (.istore 5, 2) := by decide +kernel
theorem dX8_ahead_60 : decode cX8_ahead 60 = .ok (.aload_n 0, 1) := by decide +kernel
theorem dX8_ahead_61 : decode cX8_ahead 61 = .ok (.iload_n 2, 1) := by decide +kernel
theorem dX8_ahead_62 : decode cX8_ahead 62 = .ok (.iconst 4, 1) := by decide +kernel
theorem dX8_ahead_63 : decode cX8_ahead 63 = .ok (.invokevirtual 80, 3) := by decide +kernel
theorem dX8_ahead_66 : decode cX8_ahead 66 = .ok (.invokestatic 84, 3) := by decide +kernel
theorem dX8_ahead_69 : decode cX8_ahead 69 = .ok (.iload 4, 2) := by decide +kernel
theorem dX8_ahead_71 : decode cX8_ahead 71 = .ok (.if_icmp .le 15, 3) := by decide +kernel
theorem dX8_ahead_74 : decode cX8_ahead 74 = .ok (.aload_n 0, 1) := by decide +kernel
theorem dX8_ahead_75 : decode cX8_ahead 75 = .ok (.iload_n 2, 1) := by decide +kernel
theorem dX8_ahead_76 : decode cX8_ahead 76 = .ok (.iconst 4, 1) := by decide +kernel
theorem dX8_ahead_77 : decode cX8_ahead 77 = .ok (.invokevirtual 80, 3) := by decide +kernel
theorem dX8_ahead_80 : decode cX8_ahead 80 = .ok (.invokestatic 84, 3) := by decide +kernel
theorem dX8_ahead_83 : decode cX8_ahead 83 = .ok (.goto 5, 3) := by decide +kernel
theorem dX8_ahead_86 : decode cX8_ahead 86 = .ok (.iload 4, 2) := by decide +kernel
theorem dX8_ahead_88 : decode cX8_ahead 88 = .ok (.istore 4, 2) := by decide +kernel
theorem dX8_ahead_90 : decode cX8_ahead 90 = .ok (.iinc 6 1, 3) := by decide +kernel
theorem dX8_ahead_93 : decode cX8_ahead 93 = .ok (.goto (-52), 3) := by decide +kernel
theorem dX8_ahead_96 : decode cX8_ahead 96 = .ok (.aload_n 0, 1) := by decide +kernel
theorem dX8_ahead_97 : decode cX8_ahead 97 = .ok (.iload_n 2, 1) := by decide +kernel
theorem dX8_ahead_98 : decode cX8_ahead 98 = .ok (.iload_n 3, 1) := by decide +kernel
theorem dX8_ahead_99 : decode cX8_ahead 99 = .ok (.iload 4, 2) := by decide +kernel
theorem dX8_ahead_101 : decode cX8_ahead 101 = .ok (.iload 5, 2) := by decide +kernel
theorem dX8_ahead_103 : decode cX8_ahead 103 = .ok (.invokevirtual 168, 3) := by decide +kernel
theorem dX8_ahead_106 : decode cX8_ahead 106 = .ok (.istore 6, 2) := by decide +kernel
theorem dX8_ahead_108 : decode cX8_ahead 108 = .ok (.aload_n 0, 1) := by decide +kernel
theorem dX8_ahead_109 : decode cX8_ahead 109 = .ok (.invokevirtual 172, 3) := by decide +kernel
theorem dX8_ahead_112 : decode cX8_ahead 112 = .ok (.iload 6, 2) := by decide +kernel
theorem dX8_ahead_114 : decode cX8_ahead 114 = .ok (.ireturn, 1) := by decide +kernel
set_option maxRecDepth 20000 in
theorem ggX8_quiet_X8_isCrane : GoodIn wsX8_quiet wsX8_isCrane := goodIn_r _ [4] (by decide +kernel) (by decide +kernel)
set_option maxRecDepth 20000 in
theorem gX8_quiet_X8_isCrane : GoodIn wsX8_quiet (va_wsS RX8 148 yX8_isCrane wsX8_isCrane) := goodIn_app (goodIn_of _ (by decide +kernel)) ggX8_quiet_X8_isCrane
set_option maxRecDepth 20000 in
theorem ggX8_quiet_X8_laysAside : GoodIn wsX8_quiet wsX8_laysAside := goodIn_r _ [8, 9, 10, 85, 86, 87, 88, 89, 90, 91, 92, 93] (by decide +kernel) (by decide +kernel)
set_option maxRecDepth 20000 in
theorem gX8_quiet_X8_laysAside : GoodIn wsX8_quiet (wsV RX8 165 RX8 yX8_laysAside wsX8_laysAside) := goodIn_app (goodIn_of _ (by decide +kernel)) ggX8_quiet_X8_laysAside
set_option maxRecDepth 20000 in
theorem ggX8_quiet_X8_commands : GoodIn wsX8_quiet wsX8_commands := goodIn_r _ [14, 10, 15, 16, 17, 3, 18, 19, 20, 21, 22, 23, 24, 25, 26, 27, 28, 29, 30, 85, 86, 87, 88, 89, 90, 91, 92, 93] (by decide +kernel) (by decide +kernel)
set_option maxRecDepth 20000 in
theorem gX8_quiet_X8_commands : GoodIn wsX8_quiet (wsV RX8 151 RX8 yX8_commands wsX8_commands) := goodIn_app (goodIn_of _ (by decide +kernel)) ggX8_quiet_X8_commands
set_option maxRecDepth 20000 in
theorem ggX8_quiet_X8_isQuiet : GoodIn wsX8_quiet wsX8_isQuiet := goodIn_r _ [34, 23, 24, 25, 3, 26, 10, 35, 36, 37, 85, 86, 87, 88, 89, 90, 91, 92, 93] (by decide +kernel) (by decide +kernel)
set_option maxRecDepth 20000 in
theorem gX8_quiet_X8_isQuiet : GoodIn wsX8_quiet (wsV RX8 162 RX8 yX8_isQuiet wsX8_isQuiet) := goodIn_app (goodIn_of _ (by decide +kernel)) ggX8_quiet_X8_isQuiet
set_option maxRecDepth 20000 in
theorem ggX8_quiet_X8_goesBy : GoodIn wsX8_quiet wsX8_goesBy := goodIn_r _ [41, 10, 42, 43, 44, 3, 45, 23, 24, 25, 26, 19, 20, 21, 22, 46, 47, 48, 49, 50, 51, 52, 53, 54, 55, 56, 57, 58, 59, 60, 61, 62, 63, 64, 65, 66, 67, 68, 69, 35, 36, 37, 70, 71, 72, 73, 74, 75, 76, 77, 78, 79, 80, 85, 86, 87, 88, 89, 90, 91, 92, 93] (by decide +kernel) (by decide +kernel)
set_option maxRecDepth 20000 in
theorem gX8_quiet_X8_goesBy : GoodIn wsX8_quiet (wsV RX8 136 RX8 yX8_goesBy wsX8_goesBy) := goodIn_app (goodIn_of _ (by decide +kernel)) ggX8_quiet_X8_goesBy
set_option maxRecDepth 20000 in
theorem ggX8_quiet_X8_comesBack : GoodIn wsX8_quiet wsX8_comesBack := goodIn_r _ [84, 10, 9, 85, 86, 87, 88, 89, 90, 91, 92, 93] (by decide +kernel) (by decide +kernel)
set_option maxRecDepth 20000 in
theorem gX8_quiet_X8_comesBack : GoodIn wsX8_quiet (wsV RX8 172 RX8 yX8_comesBack wsX8_comesBack) := goodIn_app (goodIn_of _ (by decide +kernel)) ggX8_quiet_X8_comesBack
theorem dX8_quiet_0 : decode cX8_quiet 0 = .ok (.iload_n 1, 1) := by decide +kernel
theorem dX8_quiet_1 : decode cX8_quiet 1 = .ok (.invokestatic 148, 3) := by decide +kernel
theorem dX8_quiet_4 : decode cX8_quiet 4 = .ok (.ifCond .ne 5, 3) := by decide +kernel
theorem dX8_quiet_7 : decode cX8_quiet 7 = .ok (.iconst (-1), 1) := by decide +kernel
theorem dX8_quiet_8 : decode cX8_quiet 8 = .ok (.ireturn, 1) := by decide +kernel
theorem dX8_quiet_9 : decode cX8_quiet 9 = .ok (.aload_n 0, 1) := by decide +kernel
theorem dX8_quiet_10 : decode cX8_quiet 10 = .ok (.invokevirtual 165, 3) := by decide +kernel
theorem dX8_quiet_13 : decode cX8_quiet 13 = .ok (.aload_n 0, 1) := by decide +kernel
theorem dX8_quiet_14 : decode cX8_quiet 14 = .ok (.iload_n 1, 1) := by decide +kernel
theorem dX8_quiet_15 : decode cX8_quiet 15 = .ok (.iconst 0, 1) := by decide +kernel
theorem dX8_quiet_16 : decode cX8_quiet 16 = .ok (.iconst (-1), 1) := by decide +kernel
theorem dX8_quiet_17 : decode cX8_quiet 17 = .ok (.invokevirtual 151, 3) := by decide +kernel
theorem dX8_quiet_20 : decode cX8_quiet 20 = .ok (.pop, 1) := by decide +kernel
theorem dX8_quiet_21 : decode cX8_quiet 21 = .ok (.iconst 0, 1) := by decide +kernel
theorem dX8_quiet_22 : decode cX8_quiet 22 = .ok (.istore_n 2, 1) := by decide +kernel
theorem dX8_quiet_23 : decode cX8_quiet 23 = .ok (.iload_n 2, 1) := by decide +kernel
theorem dX8_quiet_24 : decode cX8_quiet 24 = .ok (.bipush 60, 2) := by decide +kernel
theorem dX8_quiet_26 : decode cX8_quiet 26 = .ok (.if_icmp .ge 22, 3) := by decide +kernel
theorem dX8_quiet_29 : decode cX8_quiet 29 = .ok (.aload_n 0, 1) := by decide +kernel
theorem dX8_quiet_30 : decode cX8_quiet 30 = .ok (.iload_n 1, 1) := by decide +kernel
theorem dX8_quiet_31 : decode cX8_quiet 31 = .ok (.invokevirtual 162, 3) := by decide +kernel
theorem dX8_quiet_34 : decode cX8_quiet 34 = .ok (.ifCond .ne 14, 3) := by decide +kernel
theorem dX8_quiet_37 : decode cX8_quiet 37 = .ok (.aload_n 0, 1) := by decide +kernel
theorem dX8_quiet_38 : decode cX8_quiet 38 = .ok (.invokevirtual 136, 3) := by decide +kernel
theorem dX8_quiet_41 : decode cX8_quiet 41 = .ok (.pop, 1) := by decide +kernel
theorem dX8_quiet_42 : decode cX8_quiet 42 = .ok (.iinc 2 1, 3) := by decide +kernel
theorem dX8_quiet_45 : decode cX8_quiet 45 = .ok (.goto (-22), 3) := by decide +kernel
theorem dX8_quiet_48 : decode cX8_quiet 48 = .ok (.aload_n 0, 1) := by decide +kernel
theorem dX8_quiet_49 : decode cX8_quiet 49 = .ok (.iload_n 1, 1) := by decide +kernel
theorem dX8_quiet_50 : decode cX8_quiet 50 = .ok (.invokevirtual 162, 3) := by decide +kernel
theorem dX8_quiet_53 : decode cX8_quiet 53 = .ok (.iconst 1, 1) := by decide +kernel
theorem dX8_quiet_54 : decode cX8_quiet 54 = .ok (.if_icmp .ne 7, 3) := by decide +kernel
theorem dX8_quiet_57 : decode cX8_quiet 57 = .ok (.iload_n 2, 1) := by decide +kernel
theorem dX8_quiet_58 : decode cX8_quiet 58 = .ok (.goto 5, 3) := by decide +kernel
theorem dX8_quiet_61 : decode cX8_quiet 61 = .ok (.bipush (-4), 2) := by decide +kernel
theorem dX8_quiet_63 : decode cX8_quiet 63 = .ok (.istore_n 3, 1) := by decide +kernel
theorem dX8_quiet_64 : decode cX8_quiet 64 = .ok (.aload_n 0, 1) := by decide +kernel
theorem dX8_quiet_65 : decode cX8_quiet 65 = .ok (.invokevirtual 172, 3) := by decide +kernel
theorem dX8_quiet_68 : decode cX8_quiet 68 = .ok (.iload_n 3, 1) := by decide +kernel
theorem dX8_quiet_69 : decode cX8_quiet 69 = .ok (.ireturn, 1) := by decide +kernel
set_option maxRecDepth 20000 in
theorem ggX8_swingsBy_X8_laysAside : GoodIn wsX8_swingsBy wsX8_laysAside := goodIn_r _ [5, 6, 7, 78, 79, 80, 81, 82, 83, 84, 85, 86] (by decide +kernel) (by decide +kernel)
set_option maxRecDepth 20000 in
theorem gX8_swingsBy_X8_laysAside : GoodIn wsX8_swingsBy (wsV RX8 165 RX8 yX8_laysAside wsX8_laysAside) := goodIn_app (goodIn_of _ (by decide +kernel)) ggX8_swingsBy_X8_laysAside
set_option maxRecDepth 20000 in
theorem ggX8_swingsBy_X8_commands : GoodIn wsX8_swingsBy wsX8_commands := goodIn_r _ [11, 7, 12, 13, 14, 4, 15, 16, 17, 18, 19, 20, 21, 22, 23, 24, 25, 26, 27, 78, 79, 80, 81, 82, 83, 84, 85, 86] (by decide +kernel) (by decide +kernel)
set_option maxRecDepth 20000 in
theorem gX8_swingsBy_X8_commands : GoodIn wsX8_swingsBy (wsV RX8 151 RX8 yX8_commands wsX8_commands) := goodIn_app (goodIn_of _ (by decide +kernel)) ggX8_swingsBy_X8_commands
set_option maxRecDepth 20000 in
theorem ggX8_swingsBy_X8_goesBy : GoodIn wsX8_swingsBy wsX8_goesBy := goodIn_r _ [31, 7, 32, 33, 34, 4, 35, 20, 21, 22, 23, 16, 17, 18, 19, 36, 37, 38, 39, 40, 41, 42, 43, 44, 45, 46, 47, 48, 49, 50, 51, 52, 53, 54, 55, 56, 57, 58, 59, 60, 61, 62, 63, 64, 65, 66, 67, 68, 69, 70, 71, 72, 73, 78, 79, 80, 81, 82, 83, 84, 85, 86] (by decide +kernel) (by decide +kernel)
set_option maxRecDepth 20000 in
theorem gX8_swingsBy_X8_goesBy : GoodIn wsX8_swingsBy (wsV RX8 136 RX8 yX8_goesBy wsX8_goesBy) := goodIn_app (goodIn_of _ (by decide +kernel)) ggX8_swingsBy_X8_goesBy
set_option maxRecDepth 20000 in
theorem ggX8_swingsBy_X8_of : GoodIn wsX8_swingsBy wsX8_of := goodIn_r _ [23, 7, 78, 79, 80, 81, 82, 83, 84, 85, 86] (by decide +kernel) (by decide +kernel)
set_option maxRecDepth 20000 in
theorem gX8_swingsBy_X8_of : GoodIn wsX8_swingsBy (wsV RX8 80 RX8 yX8_of wsX8_of) := goodIn_app (goodIn_of _ (by decide +kernel)) ggX8_swingsBy_X8_of
set_option maxRecDepth 20000 in
theorem ggX8_swingsBy_X8_size : GoodIn wsX8_swingsBy wsX8_size := goodIn_r _ [62] (by decide +kernel) (by decide +kernel)
set_option maxRecDepth 20000 in
theorem gX8_swingsBy_X8_size : GoodIn wsX8_swingsBy (va_wsS RX8 84 yX8_size wsX8_size) := goodIn_app (goodIn_of _ (by decide +kernel)) ggX8_swingsBy_X8_size
set_option maxRecDepth 20000 in
theorem ggX8_swingsBy_X8_comesBack : GoodIn wsX8_swingsBy wsX8_comesBack := goodIn_r _ [77, 7, 6, 78, 79, 80, 81, 82, 83, 84, 85, 86] (by decide +kernel) (by decide +kernel)
set_option maxRecDepth 20000 in
theorem gX8_swingsBy_X8_comesBack : GoodIn wsX8_swingsBy (wsV RX8 172 RX8 yX8_comesBack wsX8_comesBack) := goodIn_app (goodIn_of _ (by decide +kernel)) ggX8_swingsBy_X8_comesBack
theorem dX8_swingsBy_0 : decode cX8_swingsBy 0 = .ok (.aload_n 0, 1) := by decide +kernel
theorem dX8_swingsBy_1 : decode cX8_swingsBy 1 = .ok (.invokevirtual 165, 3) := by decide +kernel
theorem dX8_swingsBy_4 : decode cX8_swingsBy 4 = .ok (.aload_n 0, 1) := by decide +kernel
theorem dX8_swingsBy_5 : decode cX8_swingsBy 5 = .ok (.iload_n 1, 1) := by decide +kernel
theorem dX8_swingsBy_6 : decode cX8_swingsBy 6 = .ok (.iload_n 2, 1) := by decide +kernel
theorem dX8_swingsBy_7 : decode cX8_swingsBy 7 = .ok (.iload_n 3, 1) := by decide +kernel
theorem dX8_swingsBy_8 : decode cX8_swingsBy 8 = .ok (.invokevirtual 151, 3) := by decide +kernel
theorem dX8_swingsBy_11 : decode cX8_swingsBy 11 = .ok (.pop, 1) := by decide +kernel
theorem dX8_swingsBy_12 : decode cX8_swingsBy 12 = .ok (.iconst 0, 1) := by decide +kernel
theorem dX8_swingsBy_13 : decode cX8_swingsBy 13 = .ok (.istore 4, 2) := by decide +kernel
theorem dX8_swingsBy_15 : decode cX8_swingsBy 15 = .ok (.iconst 1, 1) := by decide +kernel
theorem dX8_swingsBy_16 : decode cX8_swingsBy 16 = .ok (.istore 5, 2) := by decide +kernel
theorem dX8_swingsBy_18 : decode cX8_swingsBy 18 = .ok (.iload 5, 2) := by decide +kernel
theorem dX8_swingsBy_20 : decode cX8_swingsBy 20 = .ok (.bipush 60, 2) := by decide +kernel
theorem dX8_swingsBy_22 : decode cX8_swingsBy 22 = .ok (.if_icmp .gt 51, 3) := by decide +kernel
theorem dX8_swingsBy_25 : decode cX8_swingsBy 25 = .ok (.aload_n 0, 1) := by decide +kernel
theorem dX8_swingsBy_26 : decode cX8_swingsBy 26 = .ok (.invokevirtual 136, 3) := by decide +kernel
theorem dX8_swingsBy_29 : decode cX8_swingsBy 29 = .ok (.pop, 1) := by decide +kernel
theorem dX8_swingsBy_30 : decode cX8_swingsBy 30 = .ok (.iload 5, 2) := by decide +kernel
theorem dX8_swingsBy_32 : decode cX8_swingsBy 32 = .ok (.bipush 20, 2) := by decide +kernel
theorem dX8_swingsBy_34 : decode cX8_swingsBy 34 = .ok (.if_icmp .le 29, 3) := by decide +kernel
theorem dX8_swingsBy_37 : decode cX8_swingsBy 37 = .ok (.aload_n 0, 1) := by decide +kernel
theorem dX8_swingsBy_38 : decode cX8_swingsBy 38 = .ok (.iload_n 1, 1) := by decide +kernel
theorem dX8_swingsBy_39 : decode cX8_swingsBy 39 = .ok (.iconst 4, 1) := by decide +kernel
theorem dX8_swingsBy_40 : decode cX8_swingsBy 40 = .ok (.invokevirtual 80, 3) := by decide +kernel
theorem dX8_swingsBy_43 : decode cX8_swingsBy 43 = .ok (.invokestatic 84, 3) := by decide +kernel
theorem dX8_swingsBy_46 : decode cX8_swingsBy 46 = .ok (.iload 4, 2) := by decide +kernel
theorem dX8_swingsBy_48 : decode cX8_swingsBy 48 = .ok (.if_icmp .le 15, 3) := by decide +kernel
theorem dX8_swingsBy_51 : decode cX8_swingsBy 51 = .ok (.aload_n 0, 1) := by decide +kernel
theorem dX8_swingsBy_52 : decode cX8_swingsBy 52 = .ok (.iload_n 1, 1) := by decide +kernel
theorem dX8_swingsBy_53 : decode cX8_swingsBy 53 = .ok (.iconst 4, 1) := by decide +kernel
theorem dX8_swingsBy_54 : decode cX8_swingsBy 54 = .ok (.invokevirtual 80, 3) := by decide +kernel
theorem dX8_swingsBy_57 : decode cX8_swingsBy 57 = .ok (.invokestatic 84, 3) := by decide +kernel
theorem dX8_swingsBy_60 : decode cX8_swingsBy 60 = .ok (.goto 5, 3) := by decide +kernel
theorem dX8_swingsBy_63 : decode cX8_swingsBy 63 = .ok (.iload 4, 2) := by decide +kernel
theorem dX8_swingsBy_65 : decode cX8_swingsBy 65 = .ok (.istore 4, 2) := by decide +kernel
theorem dX8_swingsBy_67 : decode cX8_swingsBy 67 = .ok (.iinc 5 1, 3) := by decide +kernel
theorem dX8_swingsBy_70 : decode cX8_swingsBy 70 = .ok (.goto (-52), 3) := by decide +kernel
theorem dX8_swingsBy_73 : decode cX8_swingsBy 73 = .ok (.aload_n 0, 1) := by decide +kernel
theorem dX8_swingsBy_74 : decode cX8_swingsBy 74 = .ok (.invokevirtual 172, 3) := by decide +kernel
theorem dX8_swingsBy_77 : decode cX8_swingsBy 77 = .ok (.iload 4, 2) := by decide +kernel
theorem dX8_swingsBy_79 : decode cX8_swingsBy 79 = .ok (.ireturn, 1) := by decide +kernel
set_option maxRecDepth 20000 in
theorem ggX8_best_X8_isCrane : GoodIn wsX8_best wsX8_isCrane := goodIn_r _ [4] (by decide +kernel) (by decide +kernel)
set_option maxRecDepth 20000 in
theorem gX8_best_X8_isCrane : GoodIn wsX8_best (va_wsS RX8 148 yX8_isCrane wsX8_isCrane) := goodIn_app (goodIn_of _ (by decide +kernel)) ggX8_best_X8_isCrane
set_option maxRecDepth 20000 in
theorem ggX8_best_X8_in : GoodIn wsX8_best wsX8_in := goodIn_r _ [7] (by decide +kernel) (by decide +kernel)
set_option maxRecDepth 20000 in
theorem gX8_best_X8_in : GoodIn wsX8_best (va_wsS RX8 48 yX8_in wsX8_in) := goodIn_app (goodIn_of _ (by decide +kernel)) ggX8_best_X8_in
set_option maxRecDepth 20000 in
theorem ggX8_best_X8_swingsBy : GoodIn wsX8_best wsX8_swingsBy := goodIn_r _ [11, 12, 13, 14, 3, 15, 16, 17, 18, 19, 20, 21, 22, 23, 24, 25, 26, 27, 28, 29, 30, 31, 32, 33, 34, 35, 36, 37, 38, 39, 40, 41, 42, 43, 44, 45, 46, 47, 48, 49, 50, 51, 52, 53, 54, 55, 56, 57, 58, 59, 60, 61, 62, 63, 64, 65, 66, 67, 68, 69, 70, 71, 72, 73, 74, 75, 76, 77, 78, 79, 80, 81, 82, 83, 84, 85, 86, 87, 88, 89, 90, 91, 92, 93, 94, 95, 96] (by decide +kernel) (by decide +kernel)
set_option maxRecDepth 20000 in
theorem gX8_best_X8_swingsBy : GoodIn wsX8_best (wsV RX8 175 RX8 yX8_swingsBy wsX8_swingsBy) := goodIn_app (goodIn_of _ (by decide +kernel)) ggX8_best_X8_swingsBy
theorem dX8_best_0 : decode cX8_best 0 = .ok (.iload_n 1, 1) := by decide +kernel
theorem dX8_best_1 : decode cX8_best 1 = .ok (.invokestatic 148, 3) := by decide +kernel
theorem dX8_best_4 : decode cX8_best 4 = .ok (.ifCond .eq 23, 3) := by decide +kernel
theorem dX8_best_7 : decode cX8_best 7 = .ok (.iload_n 2, 1) := by decide +kernel
theorem dX8_best_8 : decode cX8_best 8 = .ok (.bipush (-40), 2) := by decide +kernel
theorem dX8_best_10 : decode cX8_best 10 = .ok (.bipush 40, 2) := by decide +kernel
theorem dX8_best_12 : decode cX8_best 12 = .ok (.invokestatic 48, 3) := by decide +kernel
theorem dX8_best_15 : decode cX8_best 15 = .ok (.ifCond .eq 12, 3) := by decide +kernel
theorem dX8_best_18 : decode cX8_best 18 = .ok (.iload_n 3, 1) := by decide +kernel
theorem dX8_best_19 : decode cX8_best 19 = .ok (.iconst 0, 1) := by decide +kernel
theorem dX8_best_20 : decode cX8_best 20 = .ok (.iconst 1, 1) := by decide +kernel
theorem dX8_best_21 : decode cX8_best 21 = .ok (.invokestatic 48, 3) := by decide +kernel
theorem dX8_best_24 : decode cX8_best 24 = .ok (.ifCond .ne 5, 3) := by decide +kernel
theorem dX8_best_27 : decode cX8_best 27 = .ok (.iconst (-1), 1) := by decide +kernel
theorem dX8_best_28 : decode cX8_best 28 = .ok (.ireturn, 1) := by decide +kernel
theorem dX8_best_29 : decode cX8_best 29 = .ok (.iconst 0, 1) := by decide +kernel
theorem dX8_best_30 : decode cX8_best 30 = .ok (.istore 4, 2) := by decide +kernel
theorem dX8_best_32 : decode cX8_best 32 = .ok (.aload_n 0, 1) := by decide +kernel
theorem dX8_best_33 : decode cX8_best 33 = .ok (.iload_n 1, 1) := by decide +kernel
theorem dX8_best_34 : decode cX8_best 34 = .ok (.iload_n 2, 1) := by decide +kernel
theorem dX8_best_35 : decode cX8_best 35 = .ok (.iconst 0, 1) := by decide +kernel
theorem dX8_best_36 : decode cX8_best 36 = .ok (.invokevirtual 175, 3) := by decide +kernel
theorem dX8_best_39 : decode cX8_best 39 = .ok (.istore 5, 2) := by decide +kernel
theorem dX8_best_41 : decode cX8_best 41 = .ok (.iconst 1, 1) := by decide +kernel
theorem dX8_best_42 : decode cX8_best 42 = .ok (.istore 6, 2) := by decide +kernel
theorem dX8_best_44 : decode cX8_best 44 = .ok (.iload 6, 2) := by decide +kernel
theorem dX8_best_46 : decode cX8_best 46 = .ok (.bipush 20, 2) := by decide +kernel
theorem dX8_best_48 : decode cX8_best 48 = .ok (.if_icmp .gt 51, 3) := by decide +kernel
theorem dX8_best_51 : decode cX8_best 51 = .ok (.aload_n 0, 1) := by decide +kernel
theorem dX8_best_52 : decode cX8_best 52 = .ok (.iload_n 1, 1) := by decide +kernel
theorem dX8_best_53 : decode cX8_best 53 = .ok (.iload_n 2, 1) := by decide +kernel
theorem dX8_best_54 : decode cX8_best 54 = .ok (.iload 6, 2) := by decide +kernel
theorem dX8_best_56 : decode cX8_best 56 = .ok (.invokevirtual 175, 3) := by decide +kernel
theorem dX8_best_59 : decode cX8_best 59 = .ok (.istore 7, 2) := by decide +kernel
theorem dX8_best_61 : decode cX8_best 61 = .ok (.iload 7, 2) := by decide +kernel
theorem dX8_best_63 : decode cX8_best 63 = .ok (.iload 5, 2) := by decide +kernel
theorem dX8_best_65 : decode cX8_best 65 = .ok (.if_icmp .ge 8, 3) := by decide +kernel
theorem dX8_best_68 : decode cX8_best 68 = .ok (.iload 6, 2) := by decide +kernel
theorem dX8_best_70 : decode cX8_best 70 = .ok (.goto 5, 3) := by decide +kernel
theorem dX8_best_73 : decode cX8_best 73 = .ok (.iload 4, 2) := by decide +kernel
theorem dX8_best_75 : decode cX8_best 75 = .ok (.istore 4, 2) := by decide +kernel
theorem dX8_best_77 : decode cX8_best 77 = .ok (.iload 7, 2) := by decide +kernel
theorem dX8_best_79 : decode cX8_best 79 = .ok (.iload 5, 2) := by decide +kernel
theorem dX8_best_81 : decode cX8_best 81 = .ok (.if_icmp .ge 8, 3) := by decide +kernel
theorem dX8_best_84 : decode cX8_best 84 = .ok (.iload 7, 2) := by decide +kernel
theorem dX8_best_86 : decode cX8_best 86 = .ok (.goto 5, 3) := by decide +kernel
theorem dX8_best_89 : decode cX8_best 89 = .ok (.iload 5, 2) := by decide +kernel
theorem dX8_best_91 : decode cX8_best 91 = .ok (.istore 5, 2) := by decide +kernel
theorem dX8_best_93 : decode cX8_best 93 = .ok (.iinc 6 1, 3) := by decide +kernel
theorem dX8_best_96 : decode cX8_best 96 = .ok (.goto (-52), 3) := by decide +kernel
theorem dX8_best_99 : decode cX8_best 99 = .ok (.iload_n 3, 1) := by decide +kernel
theorem dX8_best_100 : decode cX8_best 100 = .ok (.ifCond .ne 8, 3) := by decide +kernel
theorem dX8_best_103 : decode cX8_best 103 = .ok (.iload 4, 2) := by decide +kernel
theorem dX8_best_105 : decode cX8_best 105 = .ok (.goto 5, 3) := by decide +kernel
theorem dX8_best_108 : decode cX8_best 108 = .ok (.iload 5, 2) := by decide +kernel
theorem dX8_best_110 : decode cX8_best 110 = .ok (.ireturn, 1) := by decide +kernel
set_option maxRecDepth 20000 in
theorem ggX8_count_X8_free : GoodIn wsX8_count wsX8_free := goodIn_r _ [8, 3, 9, 10, 11, 7, 12, 16, 17, 18, 19, 20, 21, 22, 23, 24] (by decide +kernel) (by decide +kernel)
set_option maxRecDepth 20000 in
theorem gX8_count_X8_free : GoodIn wsX8_count (wsV RX8 95 RX8 yX8_free wsX8_free) := goodIn_app (goodIn_of _ (by decide +kernel)) ggX8_count_X8_free
set_option maxRecDepth 20000 in
theorem ggX8_count_X8_in : GoodIn wsX8_count wsX8_in := goodIn_r _ [15] (by decide +kernel) (by decide +kernel)
set_option maxRecDepth 20000 in
theorem gX8_count_X8_in : GoodIn wsX8_count (va_wsS RX8 48 yX8_in wsX8_in) := goodIn_app (goodIn_of _ (by decide +kernel)) ggX8_count_X8_in
theorem dX8_count_0 : decode cX8_count 0 = .ok (.iload_n 1, 1) := by decide +kernel
theorem dX8_count_1 : decode cX8_count 1 = .ok (.tableswitch 42 7 9 #[27, 32, 37], 27) := by decide +kernel
theorem dX8_count_28 : decode cX8_count 28 = .ok (.aload_n 0, 1) := by decide +kernel
theorem dX8_count_29 : decode cX8_count 29 = .ok (.getfield 38, 3) := by decide +kernel
theorem dX8_count_32 : decode cX8_count 32 = .ok (.ireturn, 1) := by decide +kernel
theorem dX8_count_33 : decode cX8_count 33 = .ok (.aload_n 0, 1) := by decide +kernel
theorem dX8_count_34 : decode cX8_count 34 = .ok (.getfield 45, 3) := by decide +kernel
theorem dX8_count_37 : decode cX8_count 37 = .ok (.ireturn, 1) := by decide +kernel
theorem dX8_count_38 : decode cX8_count 38 = .ok (.aload_n 0, 1) := by decide +kernel
theorem dX8_count_39 : decode cX8_count 39 = .ok (.invokevirtual 95, 3) := by decide +kernel
theorem dX8_count_42 : decode cX8_count 42 = .ok (.ireturn, 1) := by decide +kernel
theorem dX8_count_43 : decode cX8_count 43 = .ok (.iload_n 1, 1) := by decide +kernel
theorem dX8_count_44 : decode cX8_count 44 = .ok (.iconst 0, 1) := by decide +kernel
theorem dX8_count_45 : decode cX8_count 45 = .ok (.bipush 6, 2) := by decide +kernel
theorem dX8_count_47 : decode cX8_count 47 = .ok (.invokestatic 48, 3) := by decide +kernel
theorem dX8_count_50 : decode cX8_count 50 = .ok (.ifCond .eq 12, 3) := by decide +kernel
theorem dX8_count_53 : decode cX8_count 53 = .ok (.aload_n 0, 1) := by decide +kernel
theorem dX8_count_54 : decode cX8_count 54 = .ok (.getfield 7, 3) := by decide +kernel
theorem dX8_count_57 : decode cX8_count 57 = .ok (.iload_n 1, 1) := by decide +kernel
theorem dX8_count_58 : decode cX8_count 58 = .ok (.iaload, 1) := by decide +kernel
theorem dX8_count_59 : decode cX8_count 59 = .ok (.goto 4, 3) := by decide +kernel
theorem dX8_count_62 : decode cX8_count 62 = .ok (.iconst (-1), 1) := by decide +kernel
theorem dX8_count_63 : decode cX8_count 63 = .ok (.ireturn, 1) := by decide +kernel
