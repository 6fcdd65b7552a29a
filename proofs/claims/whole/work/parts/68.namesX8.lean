theorem dX8_init_0 : decode cX8_init 0 = .ok (.aload_n 0, 1) := by decide +kernel
theorem dX8_init_1 : decode cX8_init 1 = .ok (.invokespecial 1, 3) := by decide +kernel
theorem dX8_init_4 : decode cX8_init 4 = .ok (.aload_n 0, 1) := by decide +kernel
theorem dX8_init_5 : decode cX8_init 5 = .ok (.sipush 554, 3) := by decide +kernel
theorem dX8_init_8 : decode cX8_init 8 = .ok (.newarray .int, 2) := by decide +kernel
theorem dX8_init_10 : decode cX8_init 10 = .ok (.putfield 7, 3) := by decide +kernel
theorem dX8_init_13 : decode cX8_init 13 = .ok (.aload_n 0, 1) := by decide +kernel
theorem dX8_init_14 : decode cX8_init 14 = .ok (.sipush 554, 3) := by decide +kernel
theorem dX8_init_17 : decode cX8_init 17 = .ok (.newarray .int, 2) := by decide +kernel
theorem dX8_init_19 : decode cX8_init 19 = .ok (.putfield 13, 3) := by decide +kernel
theorem dX8_init_22 : decode cX8_init 22 = .ok (.aload_n 0, 1) := by decide +kernel
theorem dX8_init_23 : decode cX8_init 23 = .ok (.sipush 554, 3) := by decide +kernel
theorem dX8_init_26 : decode cX8_init 26 = .ok (.newarray .int, 2) := by decide +kernel
theorem dX8_init_28 : decode cX8_init 28 = .ok (.putfield 16, 3) := by decide +kernel
theorem dX8_init_31 : decode cX8_init 31 = .ok (.aload_n 0, 1) := by decide +kernel
theorem dX8_init_32 : decode cX8_init 32 = .ok (.bipush 96, 2) := by decide +kernel
theorem dX8_init_34 : decode cX8_init 34 = .ok (.newarray .int, 2) := by decide +kernel
theorem dX8_init_36 : decode cX8_init 36 = .ok (.putfield 19, 3) := by decide +kernel
theorem dX8_init_39 : decode cX8_init 39 = .ok (.aload_n 0, 1) := by decide +kernel
theorem dX8_init_40 : decode cX8_init 40 = .ok (.bipush 20, 2) := by decide +kernel
theorem dX8_init_42 : decode cX8_init 42 = .ok (.newarray .int, 2) := by decide +kernel
theorem dX8_init_44 : decode cX8_init 44 = .ok (.putfield 22, 3) := by decide +kernel
theorem dX8_init_47 : decode cX8_init 47 = .ok (.aload_n 0, 1) := by decide +kernel
theorem dX8_init_48 : decode cX8_init 48 = .ok (.bipush 96, 2) := by decide +kernel
theorem dX8_init_50 : decode cX8_init 50 = .ok (.newarray .int, 2) := by decide +kernel
theorem dX8_init_52 : decode cX8_init 52 = .ok (.putfield 25, 3) := by decide +kernel
theorem dX8_init_55 : decode cX8_init 55 = .ok (.aload_n 0, 1) := by decide +kernel
theorem dX8_init_56 : decode cX8_init 56 = .ok (.iconst 4, 1) := by decide +kernel
theorem dX8_init_57 : decode cX8_init 57 = .ok (.newarray .int, 2) := by decide +kernel
theorem dX8_init_59 : decode cX8_init 59 = .ok (.putfield 28, 3) := by decide +kernel
theorem dX8_init_62 : decode cX8_init 62 = .ok (.aload_n 0, 1) := by decide +kernel
theorem dX8_init_63 : decode cX8_init 63 = .ok (.iconst 4, 1) := by decide +kernel
theorem dX8_init_64 : decode cX8_init 64 = .ok (.newarray .int, 2) := by decide +kernel
theorem dX8_init_66 : decode cX8_init 66 = .ok (.putfield 31, 3) := by decide +kernel
theorem dX8_init_69 : decode cX8_init 69 = .ok (.aload_n 0, 1) := by decide +kernel
theorem dX8_init_70 : decode cX8_init 70 = .ok (.sipush 160, 3) := by decide +kernel
theorem dX8_init_73 : decode cX8_init 73 = .ok (.newarray .long, 2) := by decide +kernel
theorem dX8_init_75 : decode cX8_init 75 = .ok (.putfield 34, 3) := by decide +kernel
theorem dX8_init_78 : decode cX8_init 78 = .ok (.aload_n 0, 1) := by decide +kernel
theorem dX8_init_79 : decode cX8_init 79 = .ok (.getfield 7, 3) := by decide +kernel
theorem dX8_init_82 : decode cX8_init 82 = .ok (.iconst 0, 1) := by decide +kernel
theorem dX8_init_83 : decode cX8_init 83 = .ok (.iconst 1, 1) := by decide +kernel
theorem dX8_init_84 : decode cX8_init 84 = .ok (.iastore, 1) := by decide +kernel
theorem dX8_init_85 : decode cX8_init 85 = .ok (.iconst 0, 1) := by decide +kernel
theorem dX8_init_86 : decode cX8_init 86 = .ok (.istore_n 1, 1) := by decide +kernel
theorem dX8_init_87 : decode cX8_init 87 = .ok (.iload_n 1, 1) := by decide +kernel
theorem dX8_init_88 : decode cX8_init 88 = .ok (.bipush 20, 2) := by decide +kernel
theorem dX8_init_90 : decode cX8_init 90 = .ok (.if_icmp .ge 18, 3) := by decide +kernel
theorem dX8_init_93 : decode cX8_init 93 = .ok (.aload_n 0, 1) := by decide +kernel
theorem dX8_init_94 : decode cX8_init 94 = .ok (.getfield 7, 3) := by decide +kernel
theorem dX8_init_97 : decode cX8_init 97 = .ok (.iconst 2, 1) := by decide +kernel
theorem dX8_init_98 : decode cX8_init 98 = .ok (.iload_n 1, 1) := by decide +kernel
theorem dX8_init_99 : decode cX8_init 99 = .ok (.iadd, 1) := by decide +kernel
theorem dX8_init_100 : decode cX8_init 100 = .ok (.iconst (-1), 1) := by decide +kernel
theorem dX8_init_101 : decode cX8_init 101 = .ok (.iastore, 1) := by decide +kernel
theorem dX8_init_102 : decode cX8_init 102 = .ok (.iinc 1 1, 3) := by decide +kernel
theorem dX8_init_105 : decode cX8_init 105 = .ok (.goto (-18), 3) := by decide +kernel
theorem dX8_init_108 : decode cX8_init 108 = .ok (.iconst 0, 1) := by decide +kernel
theorem dX8_init_109 : decode cX8_init 109 = .ok (.istore_n 1, 1) := by decide +kernel
theorem dX8_init_110 : decode cX8_init 110 = .ok (.iload_n 1, 1) := by decide +kernel
theorem dX8_init_111 : decode cX8_init 111 = .ok (.iconst 4, 1) := by decide +kernel
theorem dX8_init_112 : decode cX8_init 112 = .ok (.if_icmp .ge 16, 3) := by decide +kernel
theorem dX8_init_115 : decode cX8_init 115 = .ok (.aload_n 0, 1) := by decide +kernel
theorem dX8_init_116 : decode cX8_init 116 = .ok (.getfield 28, 3) := by decide +kernel
theorem dX8_init_119 : decode cX8_init 119 = .ok (.iload_n 1, 1) := by decide +kernel
theorem dX8_init_120 : decode cX8_init 120 = .ok (.iconst (-1), 1) := by decide +kernel
theorem dX8_init_121 : decode cX8_init 121 = .ok (.iastore, 1) := by decide +kernel
theorem dX8_init_122 : decode cX8_init 122 = .ok (.iinc 1 1, 3) := by decide +kernel
theorem dX8_init_125 : decode cX8_init 125 = .ok (.goto (-15), 3) := by decide +kernel
theorem dX8_init_128 : decode cX8_init 128 = .ok (.return_, 1) := by decide +kernel
theorem dX8_in_0 : decode cX8_in 0 = .ok (.iload_n 0, 1) := by decide +kernel
theorem dX8_in_1 : decode cX8_in 1 = .ok (.iload_n 1, 1) := by decide +kernel
theorem dX8_in_2 : decode cX8_in 2 = .ok (.if_icmp .lt 12, 3) := by decide +kernel
theorem dX8_in_5 : decode cX8_in 5 = .ok (.iload_n 0, 1) := by decide +kernel
theorem dX8_in_6 : decode cX8_in 6 = .ok (.iload_n 2, 1) := by decide +kernel
theorem dX8_in_7 : decode cX8_in 7 = .ok (.if_icmp .gt 7, 3) := by decide +kernel
theorem dX8_in_10 : decode cX8_in 10 = .ok (.iconst 1, 1) := by decide +kernel
theorem dX8_in_11 : decode cX8_in 11 = .ok (.goto 4, 3) := by decide +kernel
theorem dX8_in_14 : decode cX8_in 14 = .ok (.iconst 0, 1) := by decide +kernel
theorem dX8_in_15 : decode cX8_in 15 = .ok (.ireturn, 1) := by decide +kernel
set_option maxRecDepth 20000 in
theorem ggX8_isThing_X8_in : GoodIn wsX8_isThing wsX8_in := goodIn_r _ [5] (by decide +kernel) (by decide +kernel)
set_option maxRecDepth 20000 in
theorem gX8_isThing_X8_in : GoodIn wsX8_isThing (va_wsS RX8 42 yX8_in wsX8_in) := goodIn_app (goodIn_of _ (by decide +kernel)) ggX8_isThing_X8_in
theorem dX8_isThing_0 : decode cX8_isThing 0 = .ok (.iload_n 1, 1) := by decide +kernel
theorem dX8_isThing_1 : decode cX8_isThing 1 = .ok (.iconst 0, 1) := by decide +kernel
theorem dX8_isThing_2 : decode cX8_isThing 2 = .ok (.bipush 19, 2) := by decide +kernel
theorem dX8_isThing_4 : decode cX8_isThing 4 = .ok (.invokestatic 42, 3) := by decide +kernel
theorem dX8_isThing_7 : decode cX8_isThing 7 = .ok (.ifCond .eq 19, 3) := by decide +kernel
theorem dX8_isThing_10 : decode cX8_isThing 10 = .ok (.aload_n 0, 1) := by decide +kernel
theorem dX8_isThing_11 : decode cX8_isThing 11 = .ok (.getfield 7, 3) := by decide +kernel
theorem dX8_isThing_14 : decode cX8_isThing 14 = .ok (.iconst 2, 1) := by decide +kernel
theorem dX8_isThing_15 : decode cX8_isThing 15 = .ok (.iload_n 1, 1) := by decide +kernel
theorem dX8_isThing_16 : decode cX8_isThing 16 = .ok (.iadd, 1) := by decide +kernel
theorem dX8_isThing_17 : decode cX8_isThing 17 = .ok (.iaload, 1) := by decide +kernel
theorem dX8_isThing_18 : decode cX8_isThing 18 = .ok (.iconst (-1), 1) := by decide +kernel
theorem dX8_isThing_19 : decode cX8_isThing 19 = .ok (.if_icmp .eq 7, 3) := by decide +kernel
theorem dX8_isThing_22 : decode cX8_isThing 22 = .ok (.iconst 1, 1) := by decide +kernel
theorem dX8_isThing_23 : decode cX8_isThing 23 = .ok (.goto 4, 3) := by decide +kernel
theorem dX8_isThing_26 : decode cX8_isThing 26 = .ok (.iconst 0, 1) := by decide +kernel
theorem dX8_isThing_27 : decode cX8_isThing 27 = .ok (.ireturn, 1) := by decide +kernel
theorem dX8_isUnder_0 : decode cX8_isUnder 0 = .ok (.iload_n 0, 1) := by decide +kernel
theorem dX8_isUnder_1 : decode cX8_isUnder 1 = .ok (.iload_n 1, 1) := by decide +kernel
theorem dX8_isUnder_2 : decode cX8_isUnder 2 = .ok (.if_icmp .eq 22, 3) := by decide +kernel
theorem dX8_isUnder_5 : decode cX8_isUnder 5 = .ok (.iload_n 0, 1) := by decide +kernel
theorem dX8_isUnder_6 : decode cX8_isUnder 6 = .ok (.iconst 1, 1) := by decide +kernel
theorem dX8_isUnder_7 : decode cX8_isUnder 7 = .ok (.if_icmp .ne 7, 3) := by decide +kernel
theorem dX8_isUnder_10 : decode cX8_isUnder 10 = .ok (.iload_n 1, 1) := by decide +kernel
theorem dX8_isUnder_11 : decode cX8_isUnder 11 = .ok (.ifCond .eq 13, 3) := by decide +kernel
theorem dX8_isUnder_14 : decode cX8_isUnder 14 = .ok (.iload_n 0, 1) := by decide +kernel
theorem dX8_isUnder_15 : decode cX8_isUnder 15 = .ok (.iconst 3, 1) := by decide +kernel
theorem dX8_isUnder_16 : decode cX8_isUnder 16 = .ok (.if_icmp .ne 12, 3) := by decide +kernel
theorem dX8_isUnder_19 : decode cX8_isUnder 19 = .ok (.iload_n 1, 1) := by decide +kernel
theorem dX8_isUnder_20 : decode cX8_isUnder 20 = .ok (.iconst 2, 1) := by decide +kernel
theorem dX8_isUnder_21 : decode cX8_isUnder 21 = .ok (.if_icmp .ne 7, 3) := by decide +kernel
theorem dX8_isUnder_24 : decode cX8_isUnder 24 = .ok (.iconst 1, 1) := by decide +kernel
theorem dX8_isUnder_25 : decode cX8_isUnder 25 = .ok (.goto 4, 3) := by decide +kernel
theorem dX8_isUnder_28 : decode cX8_isUnder 28 = .ok (.iconst 0, 1) := by decide +kernel
theorem dX8_isUnder_29 : decode cX8_isUnder 29 = .ok (.ireturn, 1) := by decide +kernel
set_option maxRecDepth 20000 in
theorem ggX8_isFiles_X8_isThing : GoodIn wsX8_isFiles wsX8_isThing := goodIn_r _ [6, 1, 7, 8, 5, 9, 13, 14, 15, 16, 17, 18, 19, 20, 21, 22, 23, 24, 25] (by decide +kernel) (by decide +kernel)
set_option maxRecDepth 20000 in
theorem gX8_isFiles_X8_isThing : GoodIn wsX8_isFiles (wsV RX8 46 RX8 yX8_isThing wsX8_isThing) := goodIn_app (goodIn_of _ (by decide +kernel)) ggX8_isFiles_X8_isThing
set_option maxRecDepth 20000 in
theorem ggX8_isFiles_X8_isUnder : GoodIn wsX8_isFiles wsX8_isUnder := goodIn_r _ [12] (by decide +kernel) (by decide +kernel)
set_option maxRecDepth 20000 in
theorem gX8_isFiles_X8_isUnder : GoodIn wsX8_isFiles (va_wsS RX8 50 yX8_isUnder wsX8_isUnder) := goodIn_app (goodIn_of _ (by decide +kernel)) ggX8_isFiles_X8_isUnder
theorem dX8_isFiles_0 : decode cX8_isFiles 0 = .ok (.aload_n 0, 1) := by decide +kernel
theorem dX8_isFiles_1 : decode cX8_isFiles 1 = .ok (.iload_n 1, 1) := by decide +kernel
theorem dX8_isFiles_2 : decode cX8_isFiles 2 = .ok (.invokevirtual 46, 3) := by decide +kernel
theorem dX8_isFiles_5 : decode cX8_isFiles 5 = .ok (.ifCond .eq 22, 3) := by decide +kernel
theorem dX8_isFiles_8 : decode cX8_isFiles 8 = .ok (.aload_n 0, 1) := by decide +kernel
theorem dX8_isFiles_9 : decode cX8_isFiles 9 = .ok (.getfield 7, 3) := by decide +kernel
theorem dX8_isFiles_12 : decode cX8_isFiles 12 = .ok (.iconst 2, 1) := by decide +kernel
theorem dX8_isFiles_13 : decode cX8_isFiles 13 = .ok (.iload_n 1, 1) := by decide +kernel
theorem dX8_isFiles_14 : decode cX8_isFiles 14 = .ok (.iadd, 1) := by decide +kernel
theorem dX8_isFiles_15 : decode cX8_isFiles 15 = .ok (.iaload, 1) := by decide +kernel
theorem dX8_isFiles_16 : decode cX8_isFiles 16 = .ok (.iconst 0, 1) := by decide +kernel
theorem dX8_isFiles_17 : decode cX8_isFiles 17 = .ok (.invokestatic 50, 3) := by decide +kernel
theorem dX8_isFiles_20 : decode cX8_isFiles 20 = .ok (.ifCond .eq 7, 3) := by decide +kernel
theorem dX8_isFiles_23 : decode cX8_isFiles 23 = .ok (.iconst 1, 1) := by decide +kernel
theorem dX8_isFiles_24 : decode cX8_isFiles 24 = .ok (.goto 4, 3) := by decide +kernel
theorem dX8_isFiles_27 : decode cX8_isFiles 27 = .ok (.iconst 0, 1) := by decide +kernel
theorem dX8_isFiles_28 : decode cX8_isFiles 28 = .ok (.ireturn, 1) := by decide +kernel
set_option maxRecDepth 20000 in
theorem ggX8_isSnapshot_X8_isThing : GoodIn wsX8_isSnapshot wsX8_isThing := goodIn_r _ [6, 1, 7, 8, 5, 9, 13, 14, 15, 16, 17, 18, 19, 20, 21, 22, 23, 24, 25] (by decide +kernel) (by decide +kernel)
set_option maxRecDepth 20000 in
theorem gX8_isSnapshot_X8_isThing : GoodIn wsX8_isSnapshot (wsV RX8 46 RX8 yX8_isThing wsX8_isThing) := goodIn_app (goodIn_of _ (by decide +kernel)) ggX8_isSnapshot_X8_isThing
set_option maxRecDepth 20000 in
theorem ggX8_isSnapshot_X8_isUnder : GoodIn wsX8_isSnapshot wsX8_isUnder := goodIn_r _ [12] (by decide +kernel) (by decide +kernel)
set_option maxRecDepth 20000 in
theorem gX8_isSnapshot_X8_isUnder : GoodIn wsX8_isSnapshot (va_wsS RX8 50 yX8_isUnder wsX8_isUnder) := goodIn_app (goodIn_of _ (by decide +kernel)) ggX8_isSnapshot_X8_isUnder
theorem dX8_isSnapshot_0 : decode cX8_isSnapshot 0 = .ok (.aload_n 0, 1) := by decide +kernel
theorem dX8_isSnapshot_1 : decode cX8_isSnapshot 1 = .ok (.iload_n 1, 1) := by decide +kernel
theorem dX8_isSnapshot_2 : decode cX8_isSnapshot 2 = .ok (.invokevirtual 46, 3) := by decide +kernel
theorem dX8_isSnapshot_5 : decode cX8_isSnapshot 5 = .ok (.ifCond .eq 22, 3) := by decide +kernel
theorem dX8_isSnapshot_8 : decode cX8_isSnapshot 8 = .ok (.aload_n 0, 1) := by decide +kernel
theorem dX8_isSnapshot_9 : decode cX8_isSnapshot 9 = .ok (.getfield 7, 3) := by decide +kernel
theorem dX8_isSnapshot_12 : decode cX8_isSnapshot 12 = .ok (.iconst 2, 1) := by decide +kernel
theorem dX8_isSnapshot_13 : decode cX8_isSnapshot 13 = .ok (.iload_n 1, 1) := by decide +kernel
theorem dX8_isSnapshot_14 : decode cX8_isSnapshot 14 = .ok (.iadd, 1) := by decide +kernel
theorem dX8_isSnapshot_15 : decode cX8_isSnapshot 15 = .ok (.iaload, 1) := by decide +kernel
theorem dX8_isSnapshot_16 : decode cX8_isSnapshot 16 = .ok (.iconst 2, 1) := by decide +kernel
theorem dX8_isSnapshot_17 : decode cX8_isSnapshot 17 = .ok (.invokestatic 50, 3) := by decide +kernel
theorem dX8_isSnapshot_20 : decode cX8_isSnapshot 20 = .ok (.ifCond .eq 7, 3) := by decide +kernel
theorem dX8_isSnapshot_23 : decode cX8_isSnapshot 23 = .ok (.iconst 1, 1) := by decide +kernel
theorem dX8_isSnapshot_24 : decode cX8_isSnapshot 24 = .ok (.goto 4, 3) := by decide +kernel
theorem dX8_isSnapshot_27 : decode cX8_isSnapshot 27 = .ok (.iconst 0, 1) := by decide +kernel
theorem dX8_isSnapshot_28 : decode cX8_isSnapshot 28 = .ok (.ireturn, 1) := by decide +kernel
set_option maxRecDepth 20000 in
theorem ggX8_hasSlots_X8_isFiles : GoodIn wsX8_hasSlots wsX8_isFiles := goodIn_r _ [5, 6, 7, 8, 9, 4, 10, 11, 12, 13, 14, 15, 16, 21, 22, 23, 24, 25, 26, 27, 28, 29, 30, 31, 32, 33] (by decide +kernel) (by decide +kernel)
set_option maxRecDepth 20000 in
theorem gX8_hasSlots_X8_isFiles : GoodIn wsX8_hasSlots (wsV RX8 54 RX8 yX8_isFiles wsX8_isFiles) := goodIn_app (goodIn_of _ (by decide +kernel)) ggX8_hasSlots_X8_isFiles
set_option maxRecDepth 20000 in
theorem ggX8_hasSlots_X8_isSnapshot : GoodIn wsX8_hasSlots wsX8_isSnapshot := goodIn_r _ [20, 6, 7, 8, 9, 4, 10, 11, 12, 13, 14, 15, 16, 21, 22, 23, 24, 25, 26, 27, 28, 29, 30, 31, 32, 33] (by decide +kernel) (by decide +kernel)
set_option maxRecDepth 20000 in
theorem gX8_hasSlots_X8_isSnapshot : GoodIn wsX8_hasSlots (wsV RX8 57 RX8 yX8_isSnapshot wsX8_isSnapshot) := goodIn_app (goodIn_of _ (by decide +kernel)) ggX8_hasSlots_X8_isSnapshot
theorem dX8_hasSlots_0 : decode cX8_hasSlots 0 = .ok (.aload_n 0, 1) := by decide +kernel
theorem dX8_hasSlots_1 : decode cX8_hasSlots 1 = .ok (.iload_n 1, 1) := by decide +kernel
theorem dX8_hasSlots_2 : decode cX8_hasSlots 2 = .ok (.invokevirtual 54, 3) := by decide +kernel
theorem dX8_hasSlots_5 : decode cX8_hasSlots 5 = .ok (.ifCond .ne 11, 3) := by decide +kernel
theorem dX8_hasSlots_8 : decode cX8_hasSlots 8 = .ok (.aload_n 0, 1) := by decide +kernel
theorem dX8_hasSlots_9 : decode cX8_hasSlots 9 = .ok (.iload_n 1, 1) := by decide +kernel
theorem dX8_hasSlots_10 : decode cX8_hasSlots 10 = .ok (.invokevirtual 57, 3) := by decide +kernel
theorem dX8_hasSlots_13 : decode cX8_hasSlots 13 = .ok (.ifCond .eq 7, 3) := by decide +kernel
theorem dX8_hasSlots_16 : decode cX8_hasSlots 16 = .ok (.iconst 1, 1) := by decide +kernel
theorem dX8_hasSlots_17 : decode cX8_hasSlots 17 = .ok (.goto 4, 3) := by decide +kernel
theorem dX8_hasSlots_20 : decode cX8_hasSlots 20 = .ok (.iconst 0, 1) := by decide +kernel
theorem dX8_hasSlots_21 : decode cX8_hasSlots 21 = .ok (.ireturn, 1) := by decide +kernel
set_option maxRecDepth 20000 in
theorem ggX8_there_X8_in : GoodIn wsX8_there wsX8_in := goodIn_r _ [4] (by decide +kernel) (by decide +kernel)
set_option maxRecDepth 20000 in
theorem gX8_there_X8_in : GoodIn wsX8_there (va_wsS RX8 42 yX8_in wsX8_in) := goodIn_app (goodIn_of _ (by decide +kernel)) ggX8_there_X8_in
set_option maxRecDepth 20000 in
theorem ggX8_there_X8_isThing : GoodIn wsX8_there wsX8_isThing := goodIn_r _ [8, 9, 1, 2, 3, 4, 10, 11, 12, 13, 14, 15, 16, 17, 18, 19, 20, 21, 22] (by decide +kernel) (by decide +kernel)
set_option maxRecDepth 20000 in
theorem gX8_there_X8_isThing : GoodIn wsX8_there (wsV RX8 46 RX8 yX8_isThing wsX8_isThing) := goodIn_app (goodIn_of _ (by decide +kernel)) ggX8_there_X8_isThing
theorem dX8_there_0 : decode cX8_there 0 = .ok (.iload_n 1, 1) := by decide +kernel
theorem dX8_there_1 : decode cX8_there 1 = .ok (.iconst 0, 1) := by decide +kernel
theorem dX8_there_2 : decode cX8_there 2 = .ok (.bipush 19, 2) := by decide +kernel
theorem dX8_there_4 : decode cX8_there 4 = .ok (.invokestatic 42, 3) := by decide +kernel
theorem dX8_there_7 : decode cX8_there 7 = .ok (.ifCond .ne 8, 3) := by decide +kernel
theorem dX8_there_10 : decode cX8_there 10 = .ok (.bipush (-12), 2) := by decide +kernel
theorem dX8_there_12 : decode cX8_there 12 = .ok (.goto 17, 3) := by decide +kernel
theorem dX8_there_15 : decode cX8_there 15 = .ok (.aload_n 0, 1) := by decide +kernel
theorem dX8_there_16 : decode cX8_there 16 = .ok (.iload_n 1, 1) := by decide +kernel
theorem dX8_there_17 : decode cX8_there 17 = .ok (.invokevirtual 46, 3) := by decide +kernel
theorem dX8_there_20 : decode cX8_there 20 = .ok (.ifCond .eq 7, 3) := by decide +kernel
theorem dX8_there_23 : decode cX8_there 23 = .ok (.iconst 0, 1) := by decide +kernel
theorem dX8_there_24 : decode cX8_there 24 = .ok (.goto 5, 3) := by decide +kernel
theorem dX8_there_27 : decode cX8_there 27 = .ok (.bipush (-11), 2) := by decide +kernel
theorem dX8_there_29 : decode cX8_there 29 = .ok (.ireturn, 1) := by decide +kernel
set_option maxRecDepth 20000 in
theorem ggX8_asked_X8_there : GoodIn wsX8_asked wsX8_there := goodIn_r _ [6, 7, 8, 5, 9, 10, 11, 12, 13, 1, 17, 18, 19, 20, 21, 22, 23, 24, 25, 26, 27, 28, 29] (by decide +kernel) (by decide +kernel)
set_option maxRecDepth 20000 in
theorem gX8_asked_X8_there : GoodIn wsX8_asked (wsV RX8 60 RX8 yX8_there wsX8_there) := goodIn_app (goodIn_of _ (by decide +kernel)) ggX8_asked_X8_there
set_option maxRecDepth 20000 in
theorem ggX8_asked_X8_isUnder : GoodIn wsX8_asked wsX8_isUnder := goodIn_r _ [16] (by decide +kernel) (by decide +kernel)
set_option maxRecDepth 20000 in
theorem gX8_asked_X8_isUnder : GoodIn wsX8_asked (va_wsS RX8 50 yX8_isUnder wsX8_isUnder) := goodIn_app (goodIn_of _ (by decide +kernel)) ggX8_asked_X8_isUnder
theorem dX8_asked_0 : decode cX8_asked 0 = .ok (.aload_n 0, 1) := by decide +kernel
theorem dX8_asked_1 : decode cX8_asked 1 = .ok (.iload_n 1, 1) := by decide +kernel
theorem dX8_asked_2 : decode cX8_asked 2 = .ok (.invokevirtual 60, 3) := by decide +kernel
theorem dX8_asked_5 : decode cX8_asked 5 = .ok (.istore_n 3, 1) := by decide +kernel
theorem dX8_asked_6 : decode cX8_asked 6 = .ok (.iload_n 3, 1) := by decide +kernel
theorem dX8_asked_7 : decode cX8_asked 7 = .ok (.ifCond .eq 7, 3) := by decide +kernel
theorem dX8_asked_10 : decode cX8_asked 10 = .ok (.iload_n 3, 1) := by decide +kernel
theorem dX8_asked_11 : decode cX8_asked 11 = .ok (.goto 24, 3) := by decide +kernel
theorem dX8_asked_14 : decode cX8_asked 14 = .ok (.aload_n 0, 1) := by decide +kernel
theorem dX8_asked_15 : decode cX8_asked 15 = .ok (.getfield 7, 3) := by decide +kernel
theorem dX8_asked_18 : decode cX8_asked 18 = .ok (.iconst 2, 1) := by decide +kernel
theorem dX8_asked_19 : decode cX8_asked 19 = .ok (.iload_n 1, 1) := by decide +kernel
theorem dX8_asked_20 : decode cX8_asked 20 = .ok (.iadd, 1) := by decide +kernel
theorem dX8_asked_21 : decode cX8_asked 21 = .ok (.iaload, 1) := by decide +kernel
theorem dX8_asked_22 : decode cX8_asked 22 = .ok (.iload_n 2, 1) := by decide +kernel
theorem dX8_asked_23 : decode cX8_asked 23 = .ok (.invokestatic 50, 3) := by decide +kernel
theorem dX8_asked_26 : decode cX8_asked 26 = .ok (.ifCond .eq 7, 3) := by decide +kernel
theorem dX8_asked_29 : decode cX8_asked 29 = .ok (.iconst 0, 1) := by decide +kernel
theorem dX8_asked_30 : decode cX8_asked 30 = .ok (.goto 5, 3) := by decide +kernel
theorem dX8_asked_33 : decode cX8_asked 33 = .ok (.bipush (-13), 2) := by decide +kernel
theorem dX8_asked_35 : decode cX8_asked 35 = .ok (.ireturn, 1) := by decide +kernel
set_option maxRecDepth 20000 in
theorem ggX8_askedSlots_X8_there : GoodIn wsX8_askedSlots wsX8_there := goodIn_r _ [5, 6, 7, 4, 8, 9, 10, 11, 12, 13, 29, 30, 31, 32, 33, 34, 35, 36, 37, 38, 39, 40, 41] (by decide +kernel) (by decide +kernel)
set_option maxRecDepth 20000 in
theorem gX8_askedSlots_X8_there : GoodIn wsX8_askedSlots (wsV RX8 60 RX8 yX8_there wsX8_there) := goodIn_app (goodIn_of _ (by decide +kernel)) ggX8_askedSlots_X8_there
set_option maxRecDepth 20000 in
theorem ggX8_askedSlots_X8_hasSlots : GoodIn wsX8_askedSlots wsX8_hasSlots := goodIn_r _ [17, 18, 19, 20, 4, 21, 13, 9, 10, 11, 12, 6, 7, 8, 22, 23, 24, 25, 26, 27, 28, 29, 30, 31, 32, 33, 34, 35, 36, 37, 38, 39, 40, 41] (by decide +kernel) (by decide +kernel)
set_option maxRecDepth 20000 in
theorem gX8_askedSlots_X8_hasSlots : GoodIn wsX8_askedSlots (wsV RX8 64 RX8 yX8_hasSlots wsX8_hasSlots) := goodIn_app (goodIn_of _ (by decide +kernel)) ggX8_askedSlots_X8_hasSlots
theorem dX8_askedSlots_0 : decode cX8_askedSlots 0 = .ok (.aload_n 0, 1) := by decide +kernel
theorem dX8_askedSlots_1 : decode cX8_askedSlots 1 = .ok (.iload_n 1, 1) := by decide +kernel
theorem dX8_askedSlots_2 : decode cX8_askedSlots 2 = .ok (.invokevirtual 60, 3) := by decide +kernel
theorem dX8_askedSlots_5 : decode cX8_askedSlots 5 = .ok (.istore_n 2, 1) := by decide +kernel
theorem dX8_askedSlots_6 : decode cX8_askedSlots 6 = .ok (.iload_n 2, 1) := by decide +kernel
theorem dX8_askedSlots_7 : decode cX8_askedSlots 7 = .ok (.ifCond .eq 7, 3) := by decide +kernel
theorem dX8_askedSlots_10 : decode cX8_askedSlots 10 = .ok (.iload_n 2, 1) := by decide +kernel
theorem dX8_askedSlots_11 : decode cX8_askedSlots 11 = .ok (.goto 17, 3) := by decide +kernel
theorem dX8_askedSlots_14 : decode cX8_askedSlots 14 = .ok (.aload_n 0, 1) := by decide +kernel
theorem dX8_askedSlots_15 : decode cX8_askedSlots 15 = .ok (.iload_n 1, 1) := by decide +kernel
theorem dX8_askedSlots_16 : decode cX8_askedSlots 16 = .ok (.invokevirtual 64, 3) := by decide +kernel
theorem dX8_askedSlots_19 : decode cX8_askedSlots 19 = .ok (.ifCond .eq 7, 3) := by decide +kernel
theorem dX8_askedSlots_22 : decode cX8_askedSlots 22 = .ok (.iconst 0, 1) := by decide +kernel
theorem dX8_askedSlots_23 : decode cX8_askedSlots 23 = .ok (.goto 5, 3) := by decide +kernel
theorem dX8_askedSlots_26 : decode cX8_askedSlots 26 = .ok (.bipush (-13), 2) := by decide +kernel
theorem dX8_askedSlots_28 : decode cX8_askedSlots 28 = .ok (.ireturn, 1) := by decide +kernel
set_option maxRecDepth 20000 in
theorem ggX8_counts_X8_hasSlots : GoodIn wsX8_counts wsX8_hasSlots := goodIn_r _ [7, 8, 9, 10, 6, 11, 2, 12, 13, 14, 15, 16, 17, 18, 19, 20, 21, 22, 23, 24, 25, 26, 27, 28, 29, 30, 31, 32, 33, 34, 35, 36, 37, 38] (by decide +kernel) (by decide +kernel)
set_option maxRecDepth 20000 in
theorem gX8_counts_X8_hasSlots : GoodIn wsX8_counts (wsV RX8 64 RX8 yX8_hasSlots wsX8_hasSlots) := goodIn_app (goodIn_of _ (by decide +kernel)) ggX8_counts_X8_hasSlots
theorem dX8_counts_0 : decode cX8_counts 0 = .ok (.iconst 0, 1) := by decide +kernel
theorem dX8_counts_1 : decode cX8_counts 1 = .ok (.istore_n 1, 1) := by decide +kernel
theorem dX8_counts_2 : decode cX8_counts 2 = .ok (.iload_n 1, 1) := by decide +kernel
theorem dX8_counts_3 : decode cX8_counts 3 = .ok (.bipush 96, 2) := by decide +kernel
theorem dX8_counts_5 : decode cX8_counts 5 = .ok (.if_icmp .ge 16, 3) := by decide +kernel
theorem dX8_counts_8 : decode cX8_counts 8 = .ok (.aload_n 0, 1) := by decide +kernel
theorem dX8_counts_9 : decode cX8_counts 9 = .ok (.getfield 19, 3) := by decide +kernel
theorem dX8_counts_12 : decode cX8_counts 12 = .ok (.iload_n 1, 1) := by decide +kernel
theorem dX8_counts_13 : decode cX8_counts 13 = .ok (.iconst 0, 1) := by decide +kernel
theorem dX8_counts_14 : decode cX8_counts 14 = .ok (.iastore, 1) := by decide +kernel
theorem dX8_counts_15 : decode cX8_counts 15 = .ok (.iinc 1 1, 3) := by decide +kernel
theorem dX8_counts_18 : decode cX8_counts 18 = .ok (.goto (-16), 3) := by decide +kernel
theorem dX8_counts_21 : decode cX8_counts 21 = .ok (.iconst 0, 1) := by decide +kernel
theorem dX8_counts_22 : decode cX8_counts 22 = .ok (.istore_n 1, 1) := by decide +kernel
theorem dX8_counts_23 : decode cX8_counts 23 = .ok (.iload_n 1, 1) := by decide +kernel
theorem dX8_counts_24 : decode cX8_counts 24 = .ok (.bipush 20, 2) := by decide +kernel
theorem dX8_counts_26 : decode cX8_counts 26 = .ok (.if_icmp .ge 61, 3) := by decide +kernel
theorem dX8_counts_29 : decode cX8_counts 29 = .ok (.iconst 0, 1) := by decide +kernel
theorem dX8_counts_30 : decode cX8_counts 30 = .ok (.istore_n 2, 1) := by decide +kernel
theorem dX8_counts_31 : decode cX8_counts 31 = .ok (.iload_n 2, 1) := by decide +kernel
theorem dX8_counts_32 : decode cX8_counts 32 = .ok (.bipush 12, 2) := by decide +kernel
theorem dX8_counts_34 : decode cX8_counts 34 = .ok (.if_icmp .ge 47, 3) := by decide +kernel
theorem dX8_counts_37 : decode cX8_counts 37 = .ok (.aload_n 0, 1) := by decide +kernel
theorem dX8_counts_38 : decode cX8_counts 38 = .ok (.iload_n 1, 1) := by decide +kernel
theorem dX8_counts_39 : decode cX8_counts 39 = .ok (.invokevirtual 64, 3) := by decide +kernel
theorem dX8_counts_42 : decode cX8_counts 42 = .ok (.ifCond .eq 39, 3) := by decide +kernel
theorem dX8_counts_45 : decode cX8_counts 45 = .ok (.aload_n 0, 1) := by decide +kernel
theorem dX8_counts_46 : decode cX8_counts 46 = .ok (.getfield 7, 3) := by decide +kernel
theorem dX8_counts_49 : decode cX8_counts 49 = .ok (.bipush 122, 2) := by decide +kernel
theorem dX8_counts_51 : decode cX8_counts 51 = .ok (.bipush 12, 2) := by decide +kernel
theorem dX8_counts_53 : decode cX8_counts 53 = .ok (.iload_n 1, 1) := by decide +kernel
theorem dX8_counts_54 : decode cX8_counts 54 = .ok (.imul, 1) := by decide +kernel
theorem dX8_counts_55 : decode cX8_counts 55 = .ok (.iadd, 1) := by decide +kernel
theorem dX8_counts_56 : decode cX8_counts 56 = .ok (.iload_n 2, 1) := by decide +kernel
theorem dX8_counts_57 : decode cX8_counts 57 = .ok (.iadd, 1) := by decide +kernel
theorem dX8_counts_58 : decode cX8_counts 58 = .ok (.iaload, 1) := by decide +kernel
theorem dX8_counts_59 : decode cX8_counts 59 = .ok (.istore_n 3, 1) := by decide +kernel
theorem dX8_counts_60 : decode cX8_counts 60 = .ok (.iload_n 3, 1) := by decide +kernel
theorem dX8_counts_61 : decode cX8_counts 61 = .ok (.iconst (-1), 1) := by decide +kernel
theorem dX8_counts_62 : decode cX8_counts 62 = .ok (.if_icmp .eq 13, 3) := by decide +kernel
theorem dX8_counts_65 : decode cX8_counts 65 = .ok (.aload_n 0, 1) := by decide +kernel
theorem dX8_counts_66 : decode cX8_counts 66 = .ok (.getfield 19, 3) := by decide +kernel
theorem dX8_counts_69 : decode cX8_counts 69 = .ok (.iload_n 3, 1) := by decide +kernel
theorem dX8_counts_70 : decode cX8_counts 70 = .ok (.dup2, 1) := by decide +kernel
theorem dX8_counts_71 : decode cX8_counts 71 = .ok (.iaload, 1) := by decide +kernel
theorem dX8_counts_72 : decode cX8_counts 72 = .ok (.iconst 1, 1) := by decide +kernel
theorem dX8_counts_73 : decode cX8_counts 73 = .ok (.iadd, 1) := by decide +kernel
theorem dX8_counts_74 : decode cX8_counts 74 = .ok (.iastore, 1) := by decide +kernel
theorem dX8_counts_75 : decode cX8_counts 75 = .ok (.iinc 2 1, 3) := by decide +kernel
theorem dX8_counts_78 : decode cX8_counts 78 = .ok (.goto (-47), 3) := by decide +kernel
theorem dX8_counts_81 : decode cX8_counts 81 = .ok (.iinc 1 1, 3) := by decide +kernel
theorem dX8_counts_84 : decode cX8_counts 84 = .ok (.goto (-61), 3) := by decide +kernel
theorem dX8_counts_87 : decode cX8_counts 87 = .ok (.return_, 1) := by decide +kernel
set_option maxRecDepth 20000 in
theorem ggX8_isHeld_X8_hasSlots : GoodIn wsX8_isHeld wsX8_hasSlots := goodIn_r _ [6, 7, 8, 9, 5, 10, 1, 11, 12, 13, 14, 15, 16, 17, 18, 19, 20, 21, 22, 23, 24, 25, 26, 27, 28, 29, 30, 31, 32, 33, 34, 35, 36, 37] (by decide +kernel) (by decide +kernel)
set_option maxRecDepth 20000 in
theorem gX8_isHeld_X8_hasSlots : GoodIn wsX8_isHeld (wsV RX8 64 RX8 yX8_hasSlots wsX8_hasSlots) := goodIn_app (goodIn_of _ (by decide +kernel)) ggX8_isHeld_X8_hasSlots
theorem dX8_isHeld_0 : decode cX8_isHeld 0 = .ok (.iconst 0, 1) := by decide +kernel
theorem dX8_isHeld_1 : decode cX8_isHeld 1 = .ok (.istore_n 3, 1) := by decide +kernel
theorem dX8_isHeld_2 : decode cX8_isHeld 2 = .ok (.iconst 0, 1) := by decide +kernel
theorem dX8_isHeld_3 : decode cX8_isHeld 3 = .ok (.istore 4, 2) := by decide +kernel
theorem dX8_isHeld_5 : decode cX8_isHeld 5 = .ok (.iload 4, 2) := by decide +kernel
theorem dX8_isHeld_7 : decode cX8_isHeld 7 = .ok (.bipush 12, 2) := by decide +kernel
theorem dX8_isHeld_9 : decode cX8_isHeld 9 = .ok (.if_icmp .ge 46, 3) := by decide +kernel
theorem dX8_isHeld_12 : decode cX8_isHeld 12 = .ok (.iload_n 3, 1) := by decide +kernel
theorem dX8_isHeld_13 : decode cX8_isHeld 13 = .ok (.ifCond .ne 30, 3) := by decide +kernel
theorem dX8_isHeld_16 : decode cX8_isHeld 16 = .ok (.aload_n 0, 1) := by decide +kernel
theorem dX8_isHeld_17 : decode cX8_isHeld 17 = .ok (.iload_n 1, 1) := by decide +kernel
theorem dX8_isHeld_18 : decode cX8_isHeld 18 = .ok (.invokevirtual 64, 3) := by decide +kernel
theorem dX8_isHeld_21 : decode cX8_isHeld 21 = .ok (.ifCond .eq 26, 3) := by decide +kernel
theorem dX8_isHeld_24 : decode cX8_isHeld 24 = .ok (.aload_n 0, 1) := by decide +kernel
theorem dX8_isHeld_25 : decode cX8_isHeld 25 = .ok (.getfield 7, 3) := by decide +kernel
theorem dX8_isHeld_28 : decode cX8_isHeld 28 = .ok (.bipush 122, 2) := by decide +kernel
theorem dX8_isHeld_30 : decode cX8_isHeld 30 = .ok (.bipush 12, 2) := by decide +kernel
theorem dX8_isHeld_32 : decode cX8_isHeld 32 = .ok (.iload_n 1, 1) := by decide +kernel
theorem dX8_isHeld_33 : decode cX8_isHeld 33 = .ok (.imul, 1) := by decide +kernel
theorem dX8_isHeld_34 : decode cX8_isHeld 34 = .ok (.iadd, 1) := by decide +kernel
theorem dX8_isHeld_35 : decode cX8_isHeld 35 = .ok (.iload 4, 2) := by decide +kernel
theorem dX8_isHeld_37 : decode cX8_isHeld 37 = .ok (.iadd, 1) := by decide +kernel
theorem dX8_isHeld_38 : decode cX8_isHeld 38 = .ok (.iaload, 1) := by decide +kernel
theorem dX8_isHeld_39 : decode cX8_isHeld 39 = .ok (.iload_n 2, 1) := by decide +kernel
theorem dX8_isHeld_40 : decode cX8_isHeld 40 = .ok (.if_icmp .ne 7, 3) := by decide +kernel
theorem dX8_isHeld_43 : decode cX8_isHeld 43 = .ok (.iconst 1, 1) := by decide +kernel
theorem dX8_isHeld_44 : decode cX8_isHeld 44 = .ok (.goto 4, 3) := by decide +kernel
theorem dX8_isHeld_47 : decode cX8_isHeld 47 = .ok (.iconst 0, 1) := by decide +kernel
theorem dX8_isHeld_48 : decode cX8_isHeld 48 = .ok (.istore_n 3, 1) := by decide +kernel
theorem dX8_isHeld_49 : decode cX8_isHeld 49 = .ok (.iinc 4 1, 3) := by decide +kernel
theorem dX8_isHeld_52 : decode cX8_isHeld 52 = .ok (.goto (-47), 3) := by decide +kernel
theorem dX8_isHeld_55 : decode cX8_isHeld 55 = .ok (.iload_n 3, 1) := by decide +kernel
theorem dX8_isHeld_56 : decode cX8_isHeld 56 = .ok (.ireturn, 1) := by decide +kernel
set_option maxRecDepth 20000 in
theorem ggX8_frees_X8_counts : GoodIn wsX8_frees wsX8_counts := goodIn_r _ [7, 2, 1, 8, 9, 10, 6, 11, 12, 13, 14, 15, 16, 17, 18, 19, 20, 21, 22, 23, 24, 25, 26, 27, 28, 29, 30, 31, 32, 33, 34, 35, 36, 37, 38, 39, 40, 41, 42] (by decide +kernel) (by decide +kernel)
set_option maxRecDepth 20000 in
theorem gX8_frees_X8_counts : GoodIn wsX8_frees (wsV RX8 67 RX8 yX8_counts wsX8_counts) := goodIn_app (goodIn_of _ (by decide +kernel)) ggX8_frees_X8_counts
theorem dX8_frees_0 : decode cX8_frees 0 = .ok (.aload_n 0, 1) := by decide +kernel
theorem dX8_frees_1 : decode cX8_frees 1 = .ok (.invokevirtual 67, 3) := by decide +kernel
theorem dX8_frees_4 : decode cX8_frees 4 = .ok (.iconst 0, 1) := by decide +kernel
theorem dX8_frees_5 : decode cX8_frees 5 = .ok (.istore_n 1, 1) := by decide +kernel
theorem dX8_frees_6 : decode cX8_frees 6 = .ok (.iconst 0, 1) := by decide +kernel
theorem dX8_frees_7 : decode cX8_frees 7 = .ok (.istore_n 2, 1) := by decide +kernel
theorem dX8_frees_8 : decode cX8_frees 8 = .ok (.iload_n 2, 1) := by decide +kernel
theorem dX8_frees_9 : decode cX8_frees 9 = .ok (.bipush 96, 2) := by decide +kernel
theorem dX8_frees_11 : decode cX8_frees 11 = .ok (.if_icmp .ge 45, 3) := by decide +kernel
theorem dX8_frees_14 : decode cX8_frees 14 = .ok (.aload_n 0, 1) := by decide +kernel
theorem dX8_frees_15 : decode cX8_frees 15 = .ok (.getfield 7, 3) := by decide +kernel
theorem dX8_frees_18 : decode cX8_frees 18 = .ok (.sipush 362, 3) := by decide +kernel
theorem dX8_frees_21 : decode cX8_frees 21 = .ok (.iload_n 2, 1) := by decide +kernel
theorem dX8_frees_22 : decode cX8_frees 22 = .ok (.iadd, 1) := by decide +kernel
theorem dX8_frees_23 : decode cX8_frees 23 = .ok (.iaload, 1) := by decide +kernel
theorem dX8_frees_24 : decode cX8_frees 24 = .ok (.ifCond .le 26, 3) := by decide +kernel
theorem dX8_frees_27 : decode cX8_frees 27 = .ok (.aload_n 0, 1) := by decide +kernel
theorem dX8_frees_28 : decode cX8_frees 28 = .ok (.getfield 19, 3) := by decide +kernel
theorem dX8_frees_31 : decode cX8_frees 31 = .ok (.iload_n 2, 1) := by decide +kernel
theorem dX8_frees_32 : decode cX8_frees 32 = .ok (.iaload, 1) := by decide +kernel
theorem dX8_frees_33 : decode cX8_frees 33 = .ok (.ifCond .ne 17, 3) := by decide +kernel
theorem dX8_frees_36 : decode cX8_frees 36 = .ok (.aload_n 0, 1) := by decide +kernel
theorem dX8_frees_37 : decode cX8_frees 37 = .ok (.getfield 7, 3) := by decide +kernel
theorem dX8_frees_40 : decode cX8_frees 40 = .ok (.sipush 362, 3) := by decide +kernel
theorem dX8_frees_43 : decode cX8_frees 43 = .ok (.iload_n 2, 1) := by decide +kernel
theorem dX8_frees_44 : decode cX8_frees 44 = .ok (.iadd, 1) := by decide +kernel
theorem dX8_frees_45 : decode cX8_frees 45 = .ok (.iconst 0, 1) := by decide +kernel
theorem dX8_frees_46 : decode cX8_frees 46 = .ok (.iastore, 1) := by decide +kernel
theorem dX8_frees_47 : decode cX8_frees 47 = .ok (.iinc 1 1, 3) := by decide +kernel
theorem dX8_frees_50 : decode cX8_frees 50 = .ok (.iinc 2 1, 3) := by decide +kernel
theorem dX8_frees_53 : decode cX8_frees 53 = .ok (.goto (-45), 3) := by decide +kernel
theorem dX8_frees_56 : decode cX8_frees 56 = .ok (.aload_n 0, 1) := by decide +kernel
theorem dX8_frees_57 : decode cX8_frees 57 = .ok (.getfield 7, 3) := by decide +kernel
theorem dX8_frees_60 : decode cX8_frees 60 = .ok (.iconst 1, 1) := by decide +kernel
theorem dX8_frees_61 : decode cX8_frees 61 = .ok (.dup2, 1) := by decide +kernel
theorem dX8_frees_62 : decode cX8_frees 62 = .ok (.iaload, 1) := by decide +kernel
theorem dX8_frees_63 : decode cX8_frees 63 = .ok (.iload_n 1, 1) := by decide +kernel
theorem dX8_frees_64 : decode cX8_frees 64 = .ok (.iadd, 1) := by decide +kernel
theorem dX8_frees_65 : decode cX8_frees 65 = .ok (.iastore, 1) := by decide +kernel
theorem dX8_frees_66 : decode cX8_frees 66 = .ok (.iload_n 1, 1) := by decide +kernel
theorem dX8_frees_67 : decode cX8_frees 67 = .ok (.ireturn, 1) := by decide +kernel
theorem dX8_newBlock_0 : decode cX8_newBlock 0 = .ok (.iconst 0, 1) := by decide +kernel
theorem dX8_newBlock_1 : decode cX8_newBlock 1 = .ok (.istore_n 1, 1) := by decide +kernel
theorem dX8_newBlock_2 : decode cX8_newBlock 2 = .ok (.iload_n 1, 1) := by decide +kernel
theorem dX8_newBlock_3 : decode cX8_newBlock 3 = .ok (.bipush 96, 2) := by decide +kernel
theorem dX8_newBlock_5 : decode cX8_newBlock 5 = .ok (.if_icmp .ge 22, 3) := by decide +kernel
theorem dX8_newBlock_8 : decode cX8_newBlock 8 = .ok (.aload_n 0, 1) := by decide +kernel
theorem dX8_newBlock_9 : decode cX8_newBlock 9 = .ok (.getfield 7, 3) := by decide +kernel
theorem dX8_newBlock_12 : decode cX8_newBlock 12 = .ok (.sipush 362, 3) := by decide +kernel
theorem dX8_newBlock_15 : decode cX8_newBlock 15 = .ok (.iload_n 1, 1) := by decide +kernel
theorem dX8_newBlock_16 : decode cX8_newBlock 16 = .ok (.iadd, 1) := by decide +kernel
theorem dX8_newBlock_17 : decode cX8_newBlock 17 = .ok (.iaload, 1) := by decide +kernel
theorem dX8_newBlock_18 : decode cX8_newBlock 18 = .ok (.ifCond .le 9, 3) := by decide +kernel
theorem dX8_newBlock_21 : decode cX8_newBlock 21 = .ok (.iinc 1 1, 3) := by decide +kernel
theorem dX8_newBlock_24 : decode cX8_newBlock 24 = .ok (.goto (-22), 3) := by decide +kernel
theorem dX8_newBlock_27 : decode cX8_newBlock 27 = .ok (.iload_n 1, 1) := by decide +kernel
theorem dX8_newBlock_28 : decode cX8_newBlock 28 = .ok (.ireturn, 1) := by decide +kernel
theorem dX8_blocks_0 : decode cX8_blocks 0 = .ok (.iconst 0, 1) := by decide +kernel
theorem dX8_blocks_1 : decode cX8_blocks 1 = .ok (.istore_n 1, 1) := by decide +kernel
theorem dX8_blocks_2 : decode cX8_blocks 2 = .ok (.iconst 0, 1) := by decide +kernel
theorem dX8_blocks_3 : decode cX8_blocks 3 = .ok (.istore_n 2, 1) := by decide +kernel
theorem dX8_blocks_4 : decode cX8_blocks 4 = .ok (.iload_n 2, 1) := by decide +kernel
theorem dX8_blocks_5 : decode cX8_blocks 5 = .ok (.bipush 96, 2) := by decide +kernel
theorem dX8_blocks_7 : decode cX8_blocks 7 = .ok (.if_icmp .ge 30, 3) := by decide +kernel
theorem dX8_blocks_10 : decode cX8_blocks 10 = .ok (.iload_n 1, 1) := by decide +kernel
theorem dX8_blocks_11 : decode cX8_blocks 11 = .ok (.aload_n 0, 1) := by decide +kernel
theorem dX8_blocks_12 : decode cX8_blocks 12 = .ok (.getfield 7, 3) := by decide +kernel
theorem dX8_blocks_15 : decode cX8_blocks 15 = .ok (.sipush 362, 3) := by decide +kernel
theorem dX8_blocks_18 : decode cX8_blocks 18 = .ok (.iload_n 2, 1) := by decide +kernel
theorem dX8_blocks_19 : decode cX8_blocks 19 = .ok (.iadd, 1) := by decide +kernel
theorem dX8_blocks_20 : decode cX8_blocks 20 = .ok (.iaload, 1) := by decide +kernel
theorem dX8_blocks_21 : decode cX8_blocks 21 = .ok (.ifCond .le 7, 3) := by decide +kernel
theorem dX8_blocks_24 : decode cX8_blocks 24 = .ok (.iconst 1, 1) := by decide +kernel
theorem dX8_blocks_25 : decode cX8_blocks 25 = .ok (.goto 4, 3) := by decide +kernel
theorem dX8_blocks_28 : decode cX8_blocks 28 = .ok (.iconst 0, 1) := by decide +kernel
theorem dX8_blocks_29 : decode cX8_blocks 29 = .ok (.iadd, 1) := by decide +kernel
theorem dX8_blocks_30 : decode cX8_blocks 30 = .ok (.istore_n 1, 1) := by decide +kernel
theorem dX8_blocks_31 : decode cX8_blocks 31 = .ok (.iinc 2 1, 3) := by decide +kernel
theorem dX8_blocks_34 : decode cX8_blocks 34 = .ok (.goto (-30), 3) := by decide +kernel
theorem dX8_blocks_37 : decode cX8_blocks 37 = .ok (.iload_n 1, 1) := by decide +kernel
theorem dX8_blocks_38 : decode cX8_blocks 38 = .ok (.ireturn, 1) := by decide +kernel
theorem dX8_newThing_0 : decode cX8_newThing 0 = .ok (.iconst 0, 1) := by decide +kernel
theorem dX8_newThing_1 : decode cX8_newThing 1 = .ok (.istore_n 1, 1) := by decide +kernel
theorem dX8_newThing_2 : decode cX8_newThing 2 = .ok (.iload_n 1, 1) := by decide +kernel
theorem dX8_newThing_3 : decode cX8_newThing 3 = .ok (.bipush 20, 2) := by decide +kernel
theorem dX8_newThing_5 : decode cX8_newThing 5 = .ok (.if_icmp .ge 21, 3) := by decide +kernel
theorem dX8_newThing_8 : decode cX8_newThing 8 = .ok (.aload_n 0, 1) := by decide +kernel
theorem dX8_newThing_9 : decode cX8_newThing 9 = .ok (.getfield 7, 3) := by decide +kernel
theorem dX8_newThing_12 : decode cX8_newThing 12 = .ok (.iconst 2, 1) := by decide +kernel
theorem dX8_newThing_13 : decode cX8_newThing 13 = .ok (.iload_n 1, 1) := by decide +kernel
theorem dX8_newThing_14 : decode cX8_newThing 14 = .ok (.iadd, 1) := by decide +kernel
theorem dX8_newThing_15 : decode cX8_newThing 15 = .ok (.iaload, 1) := by decide +kernel
theorem dX8_newThing_16 : decode cX8_newThing 16 = .ok (.iconst (-1), 1) := by decide +kernel
theorem dX8_newThing_17 : decode cX8_newThing 17 = .ok (.if_icmp .eq 9, 3) := by decide +kernel
theorem dX8_newThing_20 : decode cX8_newThing 20 = .ok (.iinc 1 1, 3) := by decide +kernel
theorem dX8_newThing_23 : decode cX8_newThing 23 = .ok (.goto (-21), 3) := by decide +kernel
theorem dX8_newThing_26 : decode cX8_newThing 26 = .ok (.iload_n 1, 1) := by decide +kernel
theorem dX8_newThing_27 : decode cX8_newThing 27 = .ok (.ireturn, 1) := by decide +kernel
set_option maxRecDepth 20000 in
theorem ggX8_comes_X8_newThing : GoodIn wsX8_comes wsX8_newThing := goodIn_r _ [6, 1, 7, 8, 9, 10, 11, 12, 13, 14, 15, 16, 17, 18, 19] (by decide +kernel) (by decide +kernel)
set_option maxRecDepth 20000 in
theorem gX8_comes_X8_newThing : GoodIn wsX8_comes (wsV RX8 70 RX8 yX8_newThing wsX8_newThing) := goodIn_app (goodIn_of _ (by decide +kernel)) ggX8_comes_X8_newThing
theorem dX8_comes_0 : decode cX8_comes 0 = .ok (.aload_n 0, 1) := by decide +kernel
theorem dX8_comes_1 : decode cX8_comes 1 = .ok (.invokevirtual 70, 3) := by decide +kernel
theorem dX8_comes_4 : decode cX8_comes 4 = .ok (.istore_n 3, 1) := by decide +kernel
theorem dX8_comes_5 : decode cX8_comes 5 = .ok (.aload_n 0, 1) := by decide +kernel
theorem dX8_comes_6 : decode cX8_comes 6 = .ok (.getfield 7, 3) := by decide +kernel
theorem dX8_comes_9 : decode cX8_comes 9 = .ok (.iconst 2, 1) := by decide +kernel
theorem dX8_comes_10 : decode cX8_comes 10 = .ok (.iload_n 3, 1) := by decide +kernel
theorem dX8_comes_11 : decode cX8_comes 11 = .ok (.iadd, 1) := by decide +kernel
theorem dX8_comes_12 : decode cX8_comes 12 = .ok (.iload_n 1, 1) := by decide +kernel
theorem dX8_comes_13 : decode cX8_comes 13 = .ok (.iastore, 1) := by decide +kernel
theorem dX8_comes_14 : decode cX8_comes 14 = .ok (.aload_n 0, 1) := by decide +kernel
theorem dX8_comes_15 : decode cX8_comes 15 = .ok (.getfield 7, 3) := by decide +kernel
theorem dX8_comes_18 : decode cX8_comes 18 = .ok (.bipush 22, 2) := by decide +kernel
theorem dX8_comes_20 : decode cX8_comes 20 = .ok (.iload_n 3, 1) := by decide +kernel
theorem dX8_comes_21 : decode cX8_comes 21 = .ok (.iadd, 1) := by decide +kernel
theorem dX8_comes_22 : decode cX8_comes 22 = .ok (.iload_n 2, 1) := by decide +kernel
theorem dX8_comes_23 : decode cX8_comes 23 = .ok (.iastore, 1) := by decide +kernel
theorem dX8_comes_24 : decode cX8_comes 24 = .ok (.aload_n 0, 1) := by decide +kernel
theorem dX8_comes_25 : decode cX8_comes 25 = .ok (.getfield 7, 3) := by decide +kernel
theorem dX8_comes_28 : decode cX8_comes 28 = .ok (.bipush 42, 2) := by decide +kernel
theorem dX8_comes_30 : decode cX8_comes 30 = .ok (.iload_n 3, 1) := by decide +kernel
theorem dX8_comes_31 : decode cX8_comes 31 = .ok (.iadd, 1) := by decide +kernel
theorem dX8_comes_32 : decode cX8_comes 32 = .ok (.iconst (-1), 1) := by decide +kernel
theorem dX8_comes_33 : decode cX8_comes 33 = .ok (.iastore, 1) := by decide +kernel
theorem dX8_comes_34 : decode cX8_comes 34 = .ok (.aload_n 0, 1) := by decide +kernel
theorem dX8_comes_35 : decode cX8_comes 35 = .ok (.getfield 7, 3) := by decide +kernel
theorem dX8_comes_38 : decode cX8_comes 38 = .ok (.bipush 62, 2) := by decide +kernel
theorem dX8_comes_40 : decode cX8_comes 40 = .ok (.iload_n 3, 1) := by decide +kernel
theorem dX8_comes_41 : decode cX8_comes 41 = .ok (.iadd, 1) := by decide +kernel
theorem dX8_comes_42 : decode cX8_comes 42 = .ok (.iconst (-1), 1) := by decide +kernel
theorem dX8_comes_43 : decode cX8_comes 43 = .ok (.iastore, 1) := by decide +kernel
theorem dX8_comes_44 : decode cX8_comes 44 = .ok (.aload_n 0, 1) := by decide +kernel
theorem dX8_comes_45 : decode cX8_comes 45 = .ok (.getfield 7, 3) := by decide +kernel
theorem dX8_comes_48 : decode cX8_comes 48 = .ok (.bipush 82, 2) := by decide +kernel
theorem dX8_comes_50 : decode cX8_comes 50 = .ok (.iload_n 3, 1) := by decide +kernel
theorem dX8_comes_51 : decode cX8_comes 51 = .ok (.iadd, 1) := by decide +kernel
theorem dX8_comes_52 : decode cX8_comes 52 = .ok (.iconst (-1), 1) := by decide +kernel
theorem dX8_comes_53 : decode cX8_comes 53 = .ok (.iastore, 1) := by decide +kernel
theorem dX8_comes_54 : decode cX8_comes 54 = .ok (.aload_n 0, 1) := by decide +kernel
theorem dX8_comes_55 : decode cX8_comes 55 = .ok (.getfield 7, 3) := by decide +kernel
theorem dX8_comes_58 : decode cX8_comes 58 = .ok (.bipush 102, 2) := by decide +kernel
theorem dX8_comes_60 : decode cX8_comes 60 = .ok (.iload_n 3, 1) := by decide +kernel
theorem dX8_comes_61 : decode cX8_comes 61 = .ok (.iadd, 1) := by decide +kernel
theorem dX8_comes_62 : decode cX8_comes 62 = .ok (.iconst 0, 1) := by decide +kernel
theorem dX8_comes_63 : decode cX8_comes 63 = .ok (.iastore, 1) := by decide +kernel
theorem dX8_comes_64 : decode cX8_comes 64 = .ok (.iconst 0, 1) := by decide +kernel
theorem dX8_comes_65 : decode cX8_comes 65 = .ok (.istore 4, 2) := by decide +kernel
theorem dX8_comes_67 : decode cX8_comes 67 = .ok (.iload 4, 2) := by decide +kernel
theorem dX8_comes_69 : decode cX8_comes 69 = .ok (.bipush 12, 2) := by decide +kernel
theorem dX8_comes_71 : decode cX8_comes 71 = .ok (.if_icmp .ge 25, 3) := by decide +kernel
theorem dX8_comes_74 : decode cX8_comes 74 = .ok (.aload_n 0, 1) := by decide +kernel
theorem dX8_comes_75 : decode cX8_comes 75 = .ok (.getfield 7, 3) := by decide +kernel
theorem dX8_comes_78 : decode cX8_comes 78 = .ok (.bipush 122, 2) := by decide +kernel
theorem dX8_comes_80 : decode cX8_comes 80 = .ok (.bipush 12, 2) := by decide +kernel
theorem dX8_comes_82 : decode cX8_comes 82 = .ok (.iload_n 3, 1) := by decide +kernel
theorem dX8_comes_83 : decode cX8_comes 83 = .ok (.imul, 1) := by decide +kernel
theorem dX8_comes_84 : decode cX8_comes 84 = .ok (.iadd, 1) := by decide +kernel
theorem dX8_comes_85 : decode cX8_comes 85 = .ok (.iload 4, 2) := by decide +kernel
theorem dX8_comes_87 : decode cX8_comes 87 = .ok (.iadd, 1) := by decide +kernel
theorem dX8_comes_88 : decode cX8_comes 88 = .ok (.iconst (-1), 1) := by decide +kernel
theorem dX8_comes_89 : decode cX8_comes 89 = .ok (.iastore, 1) := by decide +kernel
theorem dX8_comes_90 : decode cX8_comes 90 = .ok (.iinc 4 1, 3) := by decide +kernel
theorem dX8_comes_93 : decode cX8_comes 93 = .ok (.goto (-26), 3) := by decide +kernel
theorem dX8_comes_96 : decode cX8_comes 96 = .ok (.iload_n 3, 1) := by decide +kernel
theorem dX8_comes_97 : decode cX8_comes 97 = .ok (.ireturn, 1) := by decide +kernel
theorem dX8_takesSlots_0 : decode cX8_takesSlots 0 = .ok (.iconst 0, 1) := by decide +kernel
theorem dX8_takesSlots_1 : decode cX8_takesSlots 1 = .ok (.istore_n 3, 1) := by decide +kernel
theorem dX8_takesSlots_2 : decode cX8_takesSlots 2 = .ok (.iload_n 3, 1) := by decide +kernel
theorem dX8_takesSlots_3 : decode cX8_takesSlots 3 = .ok (.bipush 12, 2) := by decide +kernel
theorem dX8_takesSlots_5 : decode cX8_takesSlots 5 = .ok (.if_icmp .ge 37, 3) := by decide +kernel
theorem dX8_takesSlots_8 : decode cX8_takesSlots 8 = .ok (.aload_n 0, 1) := by decide +kernel
theorem dX8_takesSlots_9 : decode cX8_takesSlots 9 = .ok (.getfield 7, 3) := by decide +kernel
theorem dX8_takesSlots_12 : decode cX8_takesSlots 12 = .ok (.bipush 122, 2) := by decide +kernel
theorem dX8_takesSlots_14 : decode cX8_takesSlots 14 = .ok (.bipush 12, 2) := by decide +kernel
theorem dX8_takesSlots_16 : decode cX8_takesSlots 16 = .ok (.iload_n 1, 1) := by decide +kernel
theorem dX8_takesSlots_17 : decode cX8_takesSlots 17 = .ok (.imul, 1) := by decide +kernel
theorem dX8_takesSlots_18 : decode cX8_takesSlots 18 = .ok (.iadd, 1) := by decide +kernel
theorem dX8_takesSlots_19 : decode cX8_takesSlots 19 = .ok (.iload_n 3, 1) := by decide +kernel
theorem dX8_takesSlots_20 : decode cX8_takesSlots 20 = .ok (.iadd, 1) := by decide +kernel
theorem dX8_takesSlots_21 : decode cX8_takesSlots 21 = .ok (.aload_n 0, 1) := by decide +kernel
theorem dX8_takesSlots_22 : decode cX8_takesSlots 22 = .ok (.getfield 7, 3) := by decide +kernel
theorem dX8_takesSlots_25 : decode cX8_takesSlots 25 = .ok (.bipush 122, 2) := by decide +kernel
theorem dX8_takesSlots_27 : decode cX8_takesSlots 27 = .ok (.bipush 12, 2) := by decide +kernel
theorem dX8_takesSlots_29 : decode cX8_takesSlots 29 = .ok (.iload_n 2, 1) := by decide +kernel
theorem dX8_takesSlots_30 : decode cX8_takesSlots 30 = .ok (.imul, 1) := by decide +kernel
theorem dX8_takesSlots_31 : decode cX8_takesSlots 31 = .ok (.iadd, 1) := by decide +kernel
theorem dX8_takesSlots_32 : decode cX8_takesSlots 32 = .ok (.iload_n 3, 1) := by decide +kernel
theorem dX8_takesSlots_33 : decode cX8_takesSlots 33 = .ok (.iadd, 1) := by decide +kernel
theorem dX8_takesSlots_34 : decode cX8_takesSlots 34 = .ok (.iaload, 1) := by decide +kernel
theorem dX8_takesSlots_35 : decode cX8_takesSlots 35 = .ok (.iastore, 1) := by decide +kernel
theorem dX8_takesSlots_36 : decode cX8_takesSlots 36 = .ok (.iinc 3 1, 3) := by decide +kernel
theorem dX8_takesSlots_39 : decode cX8_takesSlots 39 = .ok (.goto (-37), 3) := by decide +kernel
theorem dX8_takesSlots_42 : decode cX8_takesSlots 42 = .ok (.return_, 1) := by decide +kernel
set_option maxRecDepth 20000 in
theorem ggX8_files_X8_in : GoodIn wsX8_files wsX8_in := goodIn_r _ [6] (by decide +kernel) (by decide +kernel)
set_option maxRecDepth 20000 in
theorem gX8_files_X8_in : GoodIn wsX8_files (va_wsS RX8 42 yX8_in wsX8_in) := goodIn_app (goodIn_of _ (by decide +kernel)) ggX8_files_X8_in
set_option maxRecDepth 20000 in
theorem ggX8_files_X8_newThing : GoodIn wsX8_files wsX8_newThing := goodIn_r _ [10, 2, 15, 16, 17, 18, 19, 20, 21, 22, 23, 24, 25, 26, 27] (by decide +kernel) (by decide +kernel)
set_option maxRecDepth 20000 in
theorem gX8_files_X8_newThing : GoodIn wsX8_files (wsV RX8 70 RX8 yX8_newThing wsX8_newThing) := goodIn_app (goodIn_of _ (by decide +kernel)) ggX8_files_X8_newThing
set_option maxRecDepth 20000 in
theorem ggX8_files_X8_comes : GoodIn wsX8_files wsX8_comes := goodIn_r _ [14, 2, 7, 8, 9, 5, 10, 15, 16, 17, 18, 19, 20, 21, 22, 23, 24, 25, 26, 27] (by decide +kernel) (by decide +kernel)
set_option maxRecDepth 20000 in
theorem gX8_files_X8_comes : GoodIn wsX8_files (wsV RX8 75 RX8 yX8_comes wsX8_comes) := goodIn_app (goodIn_of _ (by decide +kernel)) ggX8_files_X8_comes
theorem dX8_files_0 : decode cX8_files 0 = .ok (.iload_n 1, 1) := by decide +kernel
theorem dX8_files_1 : decode cX8_files 1 = .ok (.iconst (-1), 1) := by decide +kernel
theorem dX8_files_2 : decode cX8_files 2 = .ok (.ldc 74, 2) := by decide +kernel
theorem dX8_files_4 : decode cX8_files 4 = .ok (.invokestatic 42, 3) := by decide +kernel
theorem dX8_files_7 : decode cX8_files 7 = .ok (.ifCond .ne 6, 3) := by decide +kernel
theorem dX8_files_10 : decode cX8_files 10 = .ok (.bipush (-2), 2) := by decide +kernel
theorem dX8_files_12 : decode cX8_files 12 = .ok (.ireturn, 1) := by decide +kernel
theorem dX8_files_13 : decode cX8_files 13 = .ok (.aload_n 0, 1) := by decide +kernel
theorem dX8_files_14 : decode cX8_files 14 = .ok (.invokevirtual 70, 3) := by decide +kernel
theorem dX8_files_17 : decode cX8_files 17 = .ok (.bipush 20, 2) := by decide +kernel
theorem dX8_files_19 : decode cX8_files 19 = .ok (.if_icmp .ne 6, 3) := by decide +kernel
theorem dX8_files_22 : decode cX8_files 22 = .ok (.bipush (-4), 2) := by decide +kernel
theorem dX8_files_24 : decode cX8_files 24 = .ok (.ireturn, 1) := by decide +kernel
theorem dX8_files_25 : decode cX8_files 25 = .ok (.aload_n 0, 1) := by decide +kernel
theorem dX8_files_26 : decode cX8_files 26 = .ok (.iload_n 1, 1) := by decide +kernel
theorem dX8_files_27 : decode cX8_files 27 = .ok (.iconst (-1), 1) := by decide +kernel
theorem dX8_files_28 : decode cX8_files 28 = .ok (.if_icmp .ne 7, 3) := by decide +kernel
theorem dX8_files_31 : decode cX8_files 31 = .ok (.iconst 0, 1) := by decide +kernel
theorem dX8_files_32 : decode cX8_files 32 = .ok (.goto 4, 3) := by decide +kernel
theorem dX8_files_35 : decode cX8_files 35 = .ok (.iconst 1, 1) := by decide +kernel
theorem dX8_files_36 : decode cX8_files 36 = .ok (.aload_n 0, 1) := by decide +kernel
theorem dX8_files_37 : decode cX8_files 37 = .ok (.getfield 7, 3) := by decide +kernel
theorem dX8_files_40 : decode cX8_files 40 = .ok (.iconst 0, 1) := by decide +kernel
theorem dX8_files_41 : decode cX8_files 41 = .ok (.iaload, 1) := by decide +kernel
theorem dX8_files_42 : decode cX8_files 42 = .ok (.invokevirtual 75, 3) := by decide +kernel
theorem dX8_files_45 : decode cX8_files 45 = .ok (.istore_n 2, 1) := by decide +kernel
theorem dX8_files_46 : decode cX8_files 46 = .ok (.aload_n 0, 1) := by decide +kernel
theorem dX8_files_47 : decode cX8_files 47 = .ok (.getfield 7, 3) := by decide +kernel
theorem dX8_files_50 : decode cX8_files 50 = .ok (.bipush 82, 2) := by decide +kernel
theorem dX8_files_52 : decode cX8_files 52 = .ok (.iload_n 2, 1) := by decide +kernel
theorem dX8_files_53 : decode cX8_files 53 = .ok (.iadd, 1) := by decide +kernel
theorem dX8_files_54 : decode cX8_files 54 = .ok (.iload_n 1, 1) := by decide +kernel
theorem dX8_files_55 : decode cX8_files 55 = .ok (.iastore, 1) := by decide +kernel
theorem dX8_files_56 : decode cX8_files 56 = .ok (.iload_n 2, 1) := by decide +kernel
theorem dX8_files_57 : decode cX8_files 57 = .ok (.ireturn, 1) := by decide +kernel
theorem dX8_spaceOf_0 : decode cX8_spaceOf 0 = .ok (.lconst 0, 1) := by decide +kernel
theorem dX8_spaceOf_1 : decode cX8_spaceOf 1 = .ok (.lstore_n 2, 1) := by decide +kernel
theorem dX8_spaceOf_2 : decode cX8_spaceOf 2 = .ok (.iconst 0, 1) := by decide +kernel
theorem dX8_spaceOf_3 : decode cX8_spaceOf 3 = .ok (.istore 4, 2) := by decide +kernel
theorem dX8_spaceOf_5 : decode cX8_spaceOf 5 = .ok (.iload 4, 2) := by decide +kernel
theorem dX8_spaceOf_7 : decode cX8_spaceOf 7 = .ok (.bipush 12, 2) := by decide +kernel
theorem dX8_spaceOf_9 : decode cX8_spaceOf 9 = .ok (.if_icmp .ge 51, 3) := by decide +kernel
theorem dX8_spaceOf_12 : decode cX8_spaceOf 12 = .ok (.aload_n 0, 1) := by decide +kernel
theorem dX8_spaceOf_13 : decode cX8_spaceOf 13 = .ok (.getfield 7, 3) := by decide +kernel
theorem dX8_spaceOf_16 : decode cX8_spaceOf 16 = .ok (.bipush 122, 2) := by decide +kernel
theorem dX8_spaceOf_18 : decode cX8_spaceOf 18 = .ok (.bipush 12, 2) := by decide +kernel
theorem dX8_spaceOf_20 : decode cX8_spaceOf 20 = .ok (.iload_n 1, 1) := by decide +kernel
theorem dX8_spaceOf_21 : decode cX8_spaceOf 21 = .ok (.imul, 1) := by decide +kernel
theorem dX8_spaceOf_22 : decode cX8_spaceOf 22 = .ok (.iadd, 1) := by decide +kernel
theorem dX8_spaceOf_23 : decode cX8_spaceOf 23 = .ok (.iload 4, 2) := by decide +kernel
theorem dX8_spaceOf_25 : decode cX8_spaceOf 25 = .ok (.iadd, 1) := by decide +kernel
theorem dX8_spaceOf_26 : decode cX8_spaceOf 26 = .ok (.iaload, 1) := by decide +kernel
theorem dX8_spaceOf_27 : decode cX8_spaceOf 27 = .ok (.istore 5, 2) := by decide +kernel
theorem dX8_spaceOf_29 : decode cX8_spaceOf 29 = .ok (.lload_n 2, 1) := by decide +kernel
theorem dX8_spaceOf_30 : decode cX8_spaceOf 30 = .ok (.iload 5, 2) := by decide +kernel
theorem dX8_spaceOf_32 : decode cX8_spaceOf 32 = .ok (.iconst (-1), 1) := by decide +kernel
theorem dX8_spaceOf_33 : decode cX8_spaceOf 33 = .ok (.if_icmp .ne 7, 3) := by decide +kernel
theorem dX8_spaceOf_36 : decode cX8_spaceOf 36 = .ok (.lconst 0, 1) := by decide +kernel
theorem dX8_spaceOf_37 : decode cX8_spaceOf 37 = .ok (.goto 15, 3) := by decide +kernel
theorem dX8_spaceOf_40 : decode cX8_spaceOf 40 = .ok (.aload_n 0, 1) := by decide +kernel
theorem dX8_spaceOf_41 : decode cX8_spaceOf 41 = .ok (.getfield 7, 3) := by decide +kernel
theorem dX8_spaceOf_44 : decode cX8_spaceOf 44 = .ok (.sipush 362, 3) := by decide +kernel
theorem dX8_spaceOf_47 : decode cX8_spaceOf 47 = .ok (.iload 5, 2) := by decide +kernel
theorem dX8_spaceOf_49 : decode cX8_spaceOf 49 = .ok (.iadd, 1) := by decide +kernel
theorem dX8_spaceOf_50 : decode cX8_spaceOf 50 = .ok (.iaload, 1) := by decide +kernel
theorem dX8_spaceOf_51 : decode cX8_spaceOf 51 = .ok (.i2l, 1) := by decide +kernel
theorem dX8_spaceOf_52 : decode cX8_spaceOf 52 = .ok (.ladd, 1) := by decide +kernel
theorem dX8_spaceOf_53 : decode cX8_spaceOf 53 = .ok (.lstore_n 2, 1) := by decide +kernel
theorem dX8_spaceOf_54 : decode cX8_spaceOf 54 = .ok (.iinc 4 1, 3) := by decide +kernel
theorem dX8_spaceOf_57 : decode cX8_spaceOf 57 = .ok (.goto (-52), 3) := by decide +kernel
theorem dX8_spaceOf_60 : decode cX8_spaceOf 60 = .ok (.lload_n 2, 1) := by decide +kernel
theorem dX8_spaceOf_61 : decode cX8_spaceOf 61 = .ok (.lreturn, 1) := by decide +kernel
theorem dX8_sizeIn_0 : decode cX8_sizeIn 0 = .ok (.aload_n 0, 1) := by decide +kernel
theorem dX8_sizeIn_1 : decode cX8_sizeIn 1 = .ok (.getfield 7, 3) := by decide +kernel
theorem dX8_sizeIn_4 : decode cX8_sizeIn 4 = .ok (.bipush 122, 2) := by decide +kernel
theorem dX8_sizeIn_6 : decode cX8_sizeIn 6 = .ok (.bipush 12, 2) := by decide +kernel
theorem dX8_sizeIn_8 : decode cX8_sizeIn 8 = .ok (.iload_n 1, 1) := by decide +kernel
theorem dX8_sizeIn_9 : decode cX8_sizeIn 9 = .ok (.imul, 1) := by decide +kernel
theorem dX8_sizeIn_10 : decode cX8_sizeIn 10 = .ok (.iadd, 1) := by decide +kernel
theorem dX8_sizeIn_11 : decode cX8_sizeIn 11 = .ok (.iload_n 2, 1) := by decide +kernel
theorem dX8_sizeIn_12 : decode cX8_sizeIn 12 = .ok (.iadd, 1) := by decide +kernel
theorem dX8_sizeIn_13 : decode cX8_sizeIn 13 = .ok (.iaload, 1) := by decide +kernel
theorem dX8_sizeIn_14 : decode cX8_sizeIn 14 = .ok (.istore_n 3, 1) := by decide +kernel
theorem dX8_sizeIn_15 : decode cX8_sizeIn 15 = .ok (.iload_n 3, 1) := by decide +kernel
theorem dX8_sizeIn_16 : decode cX8_sizeIn 16 = .ok (.iconst (-1), 1) := by decide +kernel
theorem dX8_sizeIn_17 : decode cX8_sizeIn 17 = .ok (.if_icmp .ne 7, 3) := by decide +kernel
theorem dX8_sizeIn_20 : decode cX8_sizeIn 20 = .ok (.iconst 0, 1) := by decide +kernel
theorem dX8_sizeIn_21 : decode cX8_sizeIn 21 = .ok (.goto 13, 3) := by decide +kernel
theorem dX8_sizeIn_24 : decode cX8_sizeIn 24 = .ok (.aload_n 0, 1) := by decide +kernel
theorem dX8_sizeIn_25 : decode cX8_sizeIn 25 = .ok (.getfield 7, 3) := by decide +kernel
theorem dX8_sizeIn_28 : decode cX8_sizeIn 28 = .ok (.sipush 362, 3) := by decide +kernel
theorem dX8_sizeIn_31 : decode cX8_sizeIn 31 = .ok (.iload_n 3, 1) := by decide +kernel
theorem dX8_sizeIn_32 : decode cX8_sizeIn 32 = .ok (.iadd, 1) := by decide +kernel
theorem dX8_sizeIn_33 : decode cX8_sizeIn 33 = .ok (.iaload, 1) := by decide +kernel
theorem dX8_sizeIn_34 : decode cX8_sizeIn 34 = .ok (.ireturn, 1) := by decide +kernel
set_option maxRecDepth 20000 in
theorem ggX8_written_X8_newBlock : GoodIn wsX8_written wsX8_newBlock := goodIn_r _ [6, 1, 46, 47, 48, 49, 50, 51, 52, 53, 54, 55, 56, 57, 58] (by decide +kernel) (by decide +kernel)
set_option maxRecDepth 20000 in
theorem gX8_written_X8_newBlock : GoodIn wsX8_written (wsV RX8 79 RX8 yX8_newBlock wsX8_newBlock) := goodIn_app (goodIn_of _ (by decide +kernel)) ggX8_written_X8_newBlock
set_option maxRecDepth 20000 in
theorem ggX8_written_X8_spaceOf : GoodIn wsX8_written wsX8_spaceOf := goodIn_r _ [10, 1, 46, 47, 48, 49, 50, 51, 52, 53, 54, 55, 56, 57, 58] (by decide +kernel) (by decide +kernel)
set_option maxRecDepth 20000 in
theorem gX8_written_X8_spaceOf : GoodIn wsX8_written (wsV RX8 82 RX8 yX8_spaceOf wsX8_spaceOf) := goodIn_app (goodIn_of _ (by decide +kernel)) ggX8_written_X8_spaceOf
set_option maxRecDepth 20000 in
theorem ggX8_written_X8_sizeIn : GoodIn wsX8_written wsX8_sizeIn := goodIn_r _ [14, 1, 46, 47, 48, 49, 50, 51, 52, 53, 54, 55, 56, 57, 58] (by decide +kernel) (by decide +kernel)
set_option maxRecDepth 20000 in
theorem gX8_written_X8_sizeIn : GoodIn wsX8_written (wsV RX8 86 RX8 yX8_sizeIn wsX8_sizeIn) := goodIn_app (goodIn_of _ (by decide +kernel)) ggX8_written_X8_sizeIn
set_option maxRecDepth 20000 in
theorem ggX8_written_X8_frees : GoodIn wsX8_written wsX8_frees := goodIn_r _ [18, 1, 19, 20, 21, 22, 5, 23, 24, 25, 26, 27, 28, 29, 30, 31, 32, 33, 34, 35, 36, 37, 38, 39, 40, 41, 42, 43, 44, 45, 46, 47, 48, 49, 50, 51, 52, 53, 54, 55, 56, 57, 58] (by decide +kernel) (by decide +kernel)
set_option maxRecDepth 20000 in
theorem gX8_written_X8_frees : GoodIn wsX8_written (wsV RX8 89 RX8 yX8_frees wsX8_frees) := goodIn_app (goodIn_of _ (by decide +kernel)) ggX8_written_X8_frees
theorem dX8_written_0 : decode cX8_written 0 = .ok (.aload_n 0, 1) := by decide +kernel
theorem dX8_written_1 : decode cX8_written 1 = .ok (.invokevirtual 79, 3) := by decide +kernel
theorem dX8_written_4 : decode cX8_written 4 = .ok (.istore 4, 2) := by decide +kernel
theorem dX8_written_6 : decode cX8_written 6 = .ok (.aload_n 0, 1) := by decide +kernel
theorem dX8_written_7 : decode cX8_written 7 = .ok (.getfield 7, 3) := by decide +kernel
theorem dX8_written_10 : decode cX8_written 10 = .ok (.iconst 2, 1) := by decide +kernel
theorem dX8_written_11 : decode cX8_written 11 = .ok (.iload_n 1, 1) := by decide +kernel
theorem dX8_written_12 : decode cX8_written 12 = .ok (.iadd, 1) := by decide +kernel
theorem dX8_written_13 : decode cX8_written 13 = .ok (.iaload, 1) := by decide +kernel
theorem dX8_written_14 : decode cX8_written 14 = .ok (.iconst 1, 1) := by decide +kernel
theorem dX8_written_15 : decode cX8_written 15 = .ok (.if_icmp .ne 37, 3) := by decide +kernel
theorem dX8_written_18 : decode cX8_written 18 = .ok (.aload_n 0, 1) := by decide +kernel
theorem dX8_written_19 : decode cX8_written 19 = .ok (.iload_n 1, 1) := by decide +kernel
theorem dX8_written_20 : decode cX8_written 20 = .ok (.invokevirtual 82, 3) := by decide +kernel
theorem dX8_written_23 : decode cX8_written 23 = .ok (.aload_n 0, 1) := by decide +kernel
theorem dX8_written_24 : decode cX8_written 24 = .ok (.iload_n 1, 1) := by decide +kernel
theorem dX8_written_25 : decode cX8_written 25 = .ok (.iload_n 2, 1) := by decide +kernel
theorem dX8_written_26 : decode cX8_written 26 = .ok (.invokevirtual 86, 3) := by decide +kernel
theorem dX8_written_29 : decode cX8_written 29 = .ok (.i2l, 1) := by decide +kernel
theorem dX8_written_30 : decode cX8_written 30 = .ok (.lsub, 1) := by decide +kernel
theorem dX8_written_31 : decode cX8_written 31 = .ok (.iload_n 3, 1) := by decide +kernel
theorem dX8_written_32 : decode cX8_written 32 = .ok (.i2l, 1) := by decide +kernel
theorem dX8_written_33 : decode cX8_written 33 = .ok (.ladd, 1) := by decide +kernel
theorem dX8_written_34 : decode cX8_written 34 = .ok (.aload_n 0, 1) := by decide +kernel
theorem dX8_written_35 : decode cX8_written 35 = .ok (.getfield 7, 3) := by decide +kernel
theorem dX8_written_38 : decode cX8_written 38 = .ok (.bipush 82, 2) := by decide +kernel
theorem dX8_written_40 : decode cX8_written 40 = .ok (.iload_n 1, 1) := by decide +kernel
theorem dX8_written_41 : decode cX8_written 41 = .ok (.iadd, 1) := by decide +kernel
theorem dX8_written_42 : decode cX8_written 42 = .ok (.iaload, 1) := by decide +kernel
theorem dX8_written_43 : decode cX8_written 43 = .ok (.i2l, 1) := by decide +kernel
theorem dX8_written_44 : decode cX8_written 44 = .ok (.lcmp, 1) := by decide +kernel
theorem dX8_written_45 : decode cX8_written 45 = .ok (.ifCond .le 7, 3) := by decide +kernel
theorem dX8_written_48 : decode cX8_written 48 = .ok (.iconst 1, 1) := by decide +kernel
theorem dX8_written_49 : decode cX8_written 49 = .ok (.goto 4, 3) := by decide +kernel
theorem dX8_written_52 : decode cX8_written 52 = .ok (.iconst 0, 1) := by decide +kernel
theorem dX8_written_53 : decode cX8_written 53 = .ok (.istore 5, 2) := by decide +kernel
theorem dX8_written_55 : decode cX8_written 55 = .ok (.iload 4, 2) := by decide +kernel
theorem dX8_written_57 : decode cX8_written 57 = .ok (.bipush 96, 2) := by decide +kernel
theorem dX8_written_59 : decode cX8_written 59 = .ok (.if_icmp .eq 8, 3) := by decide +kernel
theorem dX8_written_62 : decode cX8_written 62 = .ok (.iload 5, 2) := by decide +kernel
theorem dX8_written_64 : decode cX8_written 64 = .ok (.ifCond .eq 6, 3) := by decide +kernel
theorem dX8_written_67 : decode cX8_written 67 = .ok (.bipush (-4), 2) := by decide +kernel
theorem dX8_written_69 : decode cX8_written 69 = .ok (.ireturn, 1) := by decide +kernel
theorem dX8_written_70 : decode cX8_written 70 = .ok (.aload_n 0, 1) := by decide +kernel
theorem dX8_written_71 : decode cX8_written 71 = .ok (.getfield 7, 3) := by decide +kernel
theorem dX8_written_74 : decode cX8_written 74 = .ok (.sipush 362, 3) := by decide +kernel
theorem dX8_written_77 : decode cX8_written 77 = .ok (.iload 4, 2) := by decide +kernel
theorem dX8_written_79 : decode cX8_written 79 = .ok (.iadd, 1) := by decide +kernel
theorem dX8_written_80 : decode cX8_written 80 = .ok (.iload_n 3, 1) := by decide +kernel
theorem dX8_written_81 : decode cX8_written 81 = .ok (.iastore, 1) := by decide +kernel
theorem dX8_written_82 : decode cX8_written 82 = .ok (.aload_n 0, 1) := by decide +kernel
theorem dX8_written_83 : decode cX8_written 83 = .ok (.getfield 7, 3) := by decide +kernel
theorem dX8_written_86 : decode cX8_written 86 = .ok (.sipush 458, 3) := by decide +kernel
theorem dX8_written_89 : decode cX8_written 89 = .ok (.iload 4, 2) := by decide +kernel
theorem dX8_written_91 : decode cX8_written 91 = .ok (.iadd, 1) := by decide +kernel
theorem dX8_written_92 : decode cX8_written 92 = .ok (.aload_n 0, 1) := by decide +kernel
theorem dX8_written_93 : decode cX8_written 93 = .ok (.getfield 7, 3) := by decide +kernel
theorem dX8_written_96 : decode cX8_written 96 = .ok (.iconst 0, 1) := by decide +kernel
theorem dX8_written_97 : decode cX8_written 97 = .ok (.iaload, 1) := by decide +kernel
theorem dX8_written_98 : decode cX8_written 98 = .ok (.iastore, 1) := by decide +kernel
theorem dX8_written_99 : decode cX8_written 99 = .ok (.aload_n 0, 1) := by decide +kernel
theorem dX8_written_100 : decode cX8_written 100 = .ok (.getfield 7, 3) := by decide +kernel
theorem dX8_written_103 : decode cX8_written 103 = .ok (.bipush 122, 2) := by decide +kernel
theorem dX8_written_105 : decode cX8_written 105 = .ok (.bipush 12, 2) := by decide +kernel
theorem dX8_written_107 : decode cX8_written 107 = .ok (.iload_n 1, 1) := by decide +kernel
theorem dX8_written_108 : decode cX8_written 108 = .ok (.imul, 1) := by decide +kernel
theorem dX8_written_109 : decode cX8_written 109 = .ok (.iadd, 1) := by decide +kernel
theorem dX8_written_110 : decode cX8_written 110 = .ok (.iload_n 2, 1) := by decide +kernel
theorem dX8_written_111 : decode cX8_written 111 = .ok (.iadd, 1) := by decide +kernel
theorem dX8_written_112 : decode cX8_written 112 = .ok (.iload 4, 2) := by decide +kernel
theorem dX8_written_114 : decode cX8_written 114 = .ok (.iastore, 1) := by decide +kernel
theorem dX8_written_115 : decode cX8_written 115 = .ok (.aload_n 0, 1) := by decide +kernel
theorem dX8_written_116 : decode cX8_written 116 = .ok (.invokevirtual 89, 3) := by decide +kernel
theorem dX8_written_119 : decode cX8_written 119 = .ok (.pop, 1) := by decide +kernel
theorem dX8_written_120 : decode cX8_written 120 = .ok (.iload 4, 2) := by decide +kernel
theorem dX8_written_122 : decode cX8_written 122 = .ok (.ireturn, 1) := by decide +kernel
set_option maxRecDepth 20000 in
theorem ggX8_erased_X8_frees : GoodIn wsX8_erased wsX8_frees := goodIn_r _ [6, 1, 7, 8, 9, 10, 5, 11, 12, 13, 14, 15, 16, 17, 18, 19, 20, 21, 22, 23, 24, 25, 26, 27, 28, 29, 30, 31, 32, 33, 34, 35, 36, 37, 38, 39, 40, 41, 42, 43, 44, 45, 46] (by decide +kernel) (by decide +kernel)
set_option maxRecDepth 20000 in
theorem gX8_erased_X8_frees : GoodIn wsX8_erased (wsV RX8 89 RX8 yX8_frees wsX8_frees) := goodIn_app (goodIn_of _ (by decide +kernel)) ggX8_erased_X8_frees
theorem dX8_erased_0 : decode cX8_erased 0 = .ok (.aload_n 0, 1) := by decide +kernel
theorem dX8_erased_1 : decode cX8_erased 1 = .ok (.getfield 7, 3) := by decide +kernel
theorem dX8_erased_4 : decode cX8_erased 4 = .ok (.bipush 122, 2) := by decide +kernel
theorem dX8_erased_6 : decode cX8_erased 6 = .ok (.bipush 12, 2) := by decide +kernel
theorem dX8_erased_8 : decode cX8_erased 8 = .ok (.iload_n 1, 1) := by decide +kernel
theorem dX8_erased_9 : decode cX8_erased 9 = .ok (.imul, 1) := by decide +kernel
theorem dX8_erased_10 : decode cX8_erased 10 = .ok (.iadd, 1) := by decide +kernel
theorem dX8_erased_11 : decode cX8_erased 11 = .ok (.iload_n 2, 1) := by decide +kernel
theorem dX8_erased_12 : decode cX8_erased 12 = .ok (.iadd, 1) := by decide +kernel
theorem dX8_erased_13 : decode cX8_erased 13 = .ok (.iaload, 1) := by decide +kernel
theorem dX8_erased_14 : decode cX8_erased 14 = .ok (.istore_n 3, 1) := by decide +kernel
theorem dX8_erased_15 : decode cX8_erased 15 = .ok (.aload_n 0, 1) := by decide +kernel
theorem dX8_erased_16 : decode cX8_erased 16 = .ok (.getfield 7, 3) := by decide +kernel
theorem dX8_erased_19 : decode cX8_erased 19 = .ok (.bipush 122, 2) := by decide +kernel
theorem dX8_erased_21 : decode cX8_erased 21 = .ok (.bipush 12, 2) := by decide +kernel
theorem dX8_erased_23 : decode cX8_erased 23 = .ok (.iload_n 1, 1) := by decide +kernel
theorem dX8_erased_24 : decode cX8_erased 24 = .ok (.imul, 1) := by decide +kernel
theorem dX8_erased_25 : decode cX8_erased 25 = .ok (.iadd, 1) := by decide +kernel
theorem dX8_erased_26 : decode cX8_erased 26 = .ok (.iload_n 2, 1) := by decide +kernel
theorem dX8_erased_27 : decode cX8_erased 27 = .ok (.iadd, 1) := by decide +kernel
theorem dX8_erased_28 : decode cX8_erased 28 = .ok (.iconst (-1), 1) := by decide +kernel
theorem dX8_erased_29 : decode cX8_erased 29 = .ok (.iastore, 1) := by decide +kernel
theorem dX8_erased_30 : decode cX8_erased 30 = .ok (.aload_n 0, 1) := by decide +kernel
theorem dX8_erased_31 : decode cX8_erased 31 = .ok (.invokevirtual 89, 3) := by decide +kernel
theorem dX8_erased_34 : decode cX8_erased 34 = .ok (.pop, 1) := by decide +kernel
theorem dX8_erased_35 : decode cX8_erased 35 = .ok (.iload_n 3, 1) := by decide +kernel
theorem dX8_erased_36 : decode cX8_erased 36 = .ok (.ireturn, 1) := by decide +kernel
set_option maxRecDepth 20000 in
theorem ggX8_write_X8_in : GoodIn wsX8_write wsX8_in := goodIn_r _ [5] (by decide +kernel) (by decide +kernel)
set_option maxRecDepth 20000 in
theorem gX8_write_X8_in : GoodIn wsX8_write (va_wsS RX8 42 yX8_in wsX8_in) := goodIn_app (goodIn_of _ (by decide +kernel)) ggX8_write_X8_in
set_option maxRecDepth 20000 in
theorem ggX8_write_X8_asked : GoodIn wsX8_write wsX8_asked := goodIn_r _ [9, 10, 11, 12, 13, 4, 14, 2, 3, 5, 15, 16, 17, 18, 19, 20, 21, 59, 60, 61, 62, 63, 64, 65, 66, 67, 68, 69, 70, 71] (by decide +kernel) (by decide +kernel)
set_option maxRecDepth 20000 in
theorem gX8_write_X8_asked : GoodIn wsX8_write (wsV RX8 92 RX8 yX8_asked wsX8_asked) := goodIn_app (goodIn_of _ (by decide +kernel)) ggX8_write_X8_asked
set_option maxRecDepth 20000 in
theorem ggX8_write_X8_written : GoodIn wsX8_write wsX8_written := goodIn_r _ [25, 10, 26, 27, 28, 4, 29, 30, 31, 32, 33, 34, 35, 36, 37, 38, 39, 40, 41, 42, 43, 44, 45, 46, 47, 48, 49, 50, 51, 52, 53, 54, 15, 16, 17, 18, 2, 3, 5, 19, 20, 21, 55, 56, 57, 58, 59, 60, 61, 62, 63, 64, 65, 66, 67, 68, 69, 70, 71] (by decide +kernel) (by decide +kernel)
set_option maxRecDepth 20000 in
theorem gX8_write_X8_written : GoodIn wsX8_write (wsV RX8 95 RX8 yX8_written wsX8_written) := goodIn_app (goodIn_of _ (by decide +kernel)) ggX8_write_X8_written
theorem dX8_write_0 : decode cX8_write 0 = .ok (.iload_n 2, 1) := by decide +kernel
theorem dX8_write_1 : decode cX8_write 1 = .ok (.iconst 0, 1) := by decide +kernel
theorem dX8_write_2 : decode cX8_write 2 = .ok (.bipush 11, 2) := by decide +kernel
theorem dX8_write_4 : decode cX8_write 4 = .ok (.invokestatic 42, 3) := by decide +kernel
theorem dX8_write_7 : decode cX8_write 7 = .ok (.ifCond .eq 13, 3) := by decide +kernel
theorem dX8_write_10 : decode cX8_write 10 = .ok (.iload_n 3, 1) := by decide +kernel
theorem dX8_write_11 : decode cX8_write 11 = .ok (.iconst 1, 1) := by decide +kernel
theorem dX8_write_12 : decode cX8_write 12 = .ok (.ldc 74, 2) := by decide +kernel
theorem dX8_write_14 : decode cX8_write 14 = .ok (.invokestatic 42, 3) := by decide +kernel
theorem dX8_write_17 : decode cX8_write 17 = .ok (.ifCond .ne 6, 3) := by decide +kernel
theorem dX8_write_20 : decode cX8_write 20 = .ok (.bipush (-2), 2) := by decide +kernel
theorem dX8_write_22 : decode cX8_write 22 = .ok (.ireturn, 1) := by decide +kernel
theorem dX8_write_23 : decode cX8_write 23 = .ok (.aload_n 0, 1) := by decide +kernel
theorem dX8_write_24 : decode cX8_write 24 = .ok (.iload_n 1, 1) := by decide +kernel
theorem dX8_write_25 : decode cX8_write 25 = .ok (.iconst 0, 1) := by decide +kernel
theorem dX8_write_26 : decode cX8_write 26 = .ok (.invokevirtual 92, 3) := by decide +kernel
theorem dX8_write_29 : decode cX8_write 29 = .ok (.istore 4, 2) := by decide +kernel
theorem dX8_write_31 : decode cX8_write 31 = .ok (.iload 4, 2) := by decide +kernel
theorem dX8_write_33 : decode cX8_write 33 = .ok (.ifCond .eq 8, 3) := by decide +kernel
theorem dX8_write_36 : decode cX8_write 36 = .ok (.iload 4, 2) := by decide +kernel
theorem dX8_write_38 : decode cX8_write 38 = .ok (.goto 10, 3) := by decide +kernel
theorem dX8_write_41 : decode cX8_write 41 = .ok (.aload_n 0, 1) := by decide +kernel
theorem dX8_write_42 : decode cX8_write 42 = .ok (.iload_n 1, 1) := by decide +kernel
theorem dX8_write_43 : decode cX8_write 43 = .ok (.iload_n 2, 1) := by decide +kernel
theorem dX8_write_44 : decode cX8_write 44 = .ok (.iload_n 3, 1) := by decide +kernel
theorem dX8_write_45 : decode cX8_write 45 = .ok (.invokevirtual 95, 3) := by decide +kernel
theorem dX8_write_48 : decode cX8_write 48 = .ok (.ireturn, 1) := by decide +kernel
set_option maxRecDepth 20000 in
theorem ggX8_erase_X8_in : GoodIn wsX8_erase wsX8_in := goodIn_r _ [4] (by decide +kernel) (by decide +kernel)
set_option maxRecDepth 20000 in
theorem gX8_erase_X8_in : GoodIn wsX8_erase (va_wsS RX8 42 yX8_in wsX8_in) := goodIn_app (goodIn_of _ (by decide +kernel)) ggX8_erase_X8_in
set_option maxRecDepth 20000 in
theorem ggX8_erase_X8_asked : GoodIn wsX8_erase wsX8_asked := goodIn_r _ [8, 9, 10, 11, 12, 3, 13, 1, 2, 4, 14, 15, 16, 17, 18, 19, 20, 46, 47, 48, 49, 50, 51, 52, 53, 54, 55, 56, 57, 58] (by decide +kernel) (by decide +kernel)
set_option maxRecDepth 20000 in
theorem gX8_erase_X8_asked : GoodIn wsX8_erase (wsV RX8 92 RX8 yX8_asked wsX8_asked) := goodIn_app (goodIn_of _ (by decide +kernel)) ggX8_erase_X8_asked
set_option maxRecDepth 20000 in
theorem ggX8_erase_X8_erased : GoodIn wsX8_erase wsX8_erased := goodIn_r _ [24, 9, 25, 26, 27, 3, 28, 29, 30, 31, 32, 33, 34, 35, 36, 37, 38, 39, 40, 41, 14, 15, 16, 17, 1, 2, 4, 18, 19, 20, 42, 43, 44, 45, 46, 47, 48, 49, 50, 51, 52, 53, 54, 55, 56, 57, 58] (by decide +kernel) (by decide +kernel)
set_option maxRecDepth 20000 in
theorem gX8_erase_X8_erased : GoodIn wsX8_erase (wsV RX8 99 RX8 yX8_erased wsX8_erased) := goodIn_app (goodIn_of _ (by decide +kernel)) ggX8_erase_X8_erased
theorem dX8_erase_0 : decode cX8_erase 0 = .ok (.iload_n 2, 1) := by decide +kernel
theorem dX8_erase_1 : decode cX8_erase 1 = .ok (.iconst 0, 1) := by decide +kernel
theorem dX8_erase_2 : decode cX8_erase 2 = .ok (.bipush 11, 2) := by decide +kernel
theorem dX8_erase_4 : decode cX8_erase 4 = .ok (.invokestatic 42, 3) := by decide +kernel
theorem dX8_erase_7 : decode cX8_erase 7 = .ok (.ifCond .ne 6, 3) := by decide +kernel
theorem dX8_erase_10 : decode cX8_erase 10 = .ok (.bipush (-2), 2) := by decide +kernel
theorem dX8_erase_12 : decode cX8_erase 12 = .ok (.ireturn, 1) := by decide +kernel
theorem dX8_erase_13 : decode cX8_erase 13 = .ok (.aload_n 0, 1) := by decide +kernel
theorem dX8_erase_14 : decode cX8_erase 14 = .ok (.iload_n 1, 1) := by decide +kernel
theorem dX8_erase_15 : decode cX8_erase 15 = .ok (.iconst 0, 1) := by decide +kernel
theorem dX8_erase_16 : decode cX8_erase 16 = .ok (.invokevirtual 92, 3) := by decide +kernel
theorem dX8_erase_19 : decode cX8_erase 19 = .ok (.istore_n 3, 1) := by decide +kernel
theorem dX8_erase_20 : decode cX8_erase 20 = .ok (.iload_n 3, 1) := by decide +kernel
theorem dX8_erase_21 : decode cX8_erase 21 = .ok (.ifCond .eq 7, 3) := by decide +kernel
theorem dX8_erase_24 : decode cX8_erase 24 = .ok (.iload_n 3, 1) := by decide +kernel
theorem dX8_erase_25 : decode cX8_erase 25 = .ok (.goto 9, 3) := by decide +kernel
theorem dX8_erase_28 : decode cX8_erase 28 = .ok (.aload_n 0, 1) := by decide +kernel
theorem dX8_erase_29 : decode cX8_erase 29 = .ok (.iload_n 1, 1) := by decide +kernel
theorem dX8_erase_30 : decode cX8_erase 30 = .ok (.iload_n 2, 1) := by decide +kernel
theorem dX8_erase_31 : decode cX8_erase 31 = .ok (.invokevirtual 99, 3) := by decide +kernel
theorem dX8_erase_34 : decode cX8_erase 34 = .ok (.ireturn, 1) := by decide +kernel
set_option maxRecDepth 20000 in
theorem ggX8_snap_X8_in : GoodIn wsX8_snap wsX8_in := goodIn_r _ [5] (by decide +kernel) (by decide +kernel)
set_option maxRecDepth 20000 in
theorem gX8_snap_X8_in : GoodIn wsX8_snap (va_wsS RX8 42 yX8_in wsX8_in) := goodIn_app (goodIn_of _ (by decide +kernel)) ggX8_snap_X8_in
set_option maxRecDepth 20000 in
theorem ggX8_snap_X8_asked : GoodIn wsX8_snap wsX8_asked := goodIn_r _ [9, 1, 10, 11, 12, 4, 13, 2, 3, 5, 14, 15, 16, 17, 18, 19, 20, 33, 34, 35, 36, 37, 38, 39, 40, 41, 42, 43, 44, 45] (by decide +kernel) (by decide +kernel)
set_option maxRecDepth 20000 in
theorem gX8_snap_X8_asked : GoodIn wsX8_snap (wsV RX8 92 RX8 yX8_asked wsX8_asked) := goodIn_app (goodIn_of _ (by decide +kernel)) ggX8_snap_X8_asked
set_option maxRecDepth 20000 in
theorem ggX8_snap_X8_newThing : GoodIn wsX8_snap wsX8_newThing := goodIn_r _ [24, 1, 33, 34, 35, 36, 37, 38, 39, 40, 41, 42, 43, 44, 45] (by decide +kernel) (by decide +kernel)
set_option maxRecDepth 20000 in
theorem gX8_snap_X8_newThing : GoodIn wsX8_snap (wsV RX8 70 RX8 yX8_newThing wsX8_newThing) := goodIn_app (goodIn_of _ (by decide +kernel)) ggX8_snap_X8_newThing
set_option maxRecDepth 20000 in
theorem ggX8_snap_X8_comes : GoodIn wsX8_snap wsX8_comes := goodIn_r _ [28, 1, 21, 22, 23, 4, 24, 33, 34, 35, 36, 37, 38, 39, 40, 41, 42, 43, 44, 45] (by decide +kernel) (by decide +kernel)
set_option maxRecDepth 20000 in
theorem gX8_snap_X8_comes : GoodIn wsX8_snap (wsV RX8 75 RX8 yX8_comes wsX8_comes) := goodIn_app (goodIn_of _ (by decide +kernel)) ggX8_snap_X8_comes
set_option maxRecDepth 20000 in
theorem ggX8_snap_X8_takesSlots : GoodIn wsX8_snap wsX8_takesSlots := goodIn_r _ [32, 1, 33, 34, 35, 36, 37, 38, 39, 40, 41, 42, 43, 44, 45] (by decide +kernel) (by decide +kernel)
set_option maxRecDepth 20000 in
theorem gX8_snap_X8_takesSlots : GoodIn wsX8_snap (wsV RX8 102 RX8 yX8_takesSlots wsX8_takesSlots) := goodIn_app (goodIn_of _ (by decide +kernel)) ggX8_snap_X8_takesSlots
theorem dX8_snap_0 : decode cX8_snap 0 = .ok (.iload_n 2, 1) := by decide +kernel
theorem dX8_snap_1 : decode cX8_snap 1 = .ok (.iconst 0, 1) := by decide +kernel
theorem dX8_snap_2 : decode cX8_snap 2 = .ok (.iconst 1, 1) := by decide +kernel
theorem dX8_snap_3 : decode cX8_snap 3 = .ok (.invokestatic 42, 3) := by decide +kernel
theorem dX8_snap_6 : decode cX8_snap 6 = .ok (.ifCond .ne 6, 3) := by decide +kernel
theorem dX8_snap_9 : decode cX8_snap 9 = .ok (.bipush (-2), 2) := by decide +kernel
theorem dX8_snap_11 : decode cX8_snap 11 = .ok (.ireturn, 1) := by decide +kernel
theorem dX8_snap_12 : decode cX8_snap 12 = .ok (.aload_n 0, 1) := by decide +kernel
theorem dX8_snap_13 : decode cX8_snap 13 = .ok (.iload_n 1, 1) := by decide +kernel
theorem dX8_snap_14 : decode cX8_snap 14 = .ok (.iconst 0, 1) := by decide +kernel
theorem dX8_snap_15 : decode cX8_snap 15 = .ok (.invokevirtual 92, 3) := by decide +kernel
theorem dX8_snap_18 : decode cX8_snap 18 = .ok (.istore_n 3, 1) := by decide +kernel
theorem dX8_snap_19 : decode cX8_snap 19 = .ok (.iload_n 3, 1) := by decide +kernel
theorem dX8_snap_20 : decode cX8_snap 20 = .ok (.ifCond .eq 5, 3) := by decide +kernel
theorem dX8_snap_23 : decode cX8_snap 23 = .ok (.iload_n 3, 1) := by decide +kernel
theorem dX8_snap_24 : decode cX8_snap 24 = .ok (.ireturn, 1) := by decide +kernel
theorem dX8_snap_25 : decode cX8_snap 25 = .ok (.aload_n 0, 1) := by decide +kernel
theorem dX8_snap_26 : decode cX8_snap 26 = .ok (.invokevirtual 70, 3) := by decide +kernel
theorem dX8_snap_29 : decode cX8_snap 29 = .ok (.bipush 20, 2) := by decide +kernel
theorem dX8_snap_31 : decode cX8_snap 31 = .ok (.if_icmp .ne 6, 3) := by decide +kernel
theorem dX8_snap_34 : decode cX8_snap 34 = .ok (.bipush (-4), 2) := by decide +kernel
theorem dX8_snap_36 : decode cX8_snap 36 = .ok (.ireturn, 1) := by decide +kernel
theorem dX8_snap_37 : decode cX8_snap 37 = .ok (.aload_n 0, 1) := by decide +kernel
theorem dX8_snap_38 : decode cX8_snap 38 = .ok (.iconst 2, 1) := by decide +kernel
theorem dX8_snap_39 : decode cX8_snap 39 = .ok (.iload_n 2, 1) := by decide +kernel
theorem dX8_snap_40 : decode cX8_snap 40 = .ok (.iadd, 1) := by decide +kernel
theorem dX8_snap_41 : decode cX8_snap 41 = .ok (.aload_n 0, 1) := by decide +kernel
theorem dX8_snap_42 : decode cX8_snap 42 = .ok (.getfield 7, 3) := by decide +kernel
theorem dX8_snap_45 : decode cX8_snap 45 = .ok (.iconst 0, 1) := by decide +kernel
theorem dX8_snap_46 : decode cX8_snap 46 = .ok (.iaload, 1) := by decide +kernel
theorem dX8_snap_47 : decode cX8_snap 47 = .ok (.invokevirtual 75, 3) := by decide +kernel
theorem dX8_snap_50 : decode cX8_snap 50 = .ok (.istore 4, 2) := by decide +kernel
theorem dX8_snap_52 : decode cX8_snap 52 = .ok (.aload_n 0, 1) := by decide +kernel
theorem dX8_snap_53 : decode cX8_snap 53 = .ok (.iload 4, 2) := by decide +kernel
theorem dX8_snap_55 : decode cX8_snap 55 = .ok (.iload_n 1, 1) := by decide +kernel
theorem dX8_snap_56 : decode cX8_snap 56 = .ok (.invokevirtual 102, 3) := by decide +kernel
theorem dX8_snap_59 : decode cX8_snap 59 = .ok (.aload_n 0, 1) := by decide +kernel
theorem dX8_snap_60 : decode cX8_snap 60 = .ok (.getfield 7, 3) := by decide +kernel
theorem dX8_snap_63 : decode cX8_snap 63 = .ok (.bipush 42, 2) := by decide +kernel
theorem dX8_snap_65 : decode cX8_snap 65 = .ok (.iload 4, 2) := by decide +kernel
theorem dX8_snap_67 : decode cX8_snap 67 = .ok (.iadd, 1) := by decide +kernel
theorem dX8_snap_68 : decode cX8_snap 68 = .ok (.aload_n 0, 1) := by decide +kernel
theorem dX8_snap_69 : decode cX8_snap 69 = .ok (.getfield 7, 3) := by decide +kernel
theorem dX8_snap_72 : decode cX8_snap 72 = .ok (.bipush 42, 2) := by decide +kernel
theorem dX8_snap_74 : decode cX8_snap 74 = .ok (.iload_n 1, 1) := by decide +kernel
theorem dX8_snap_75 : decode cX8_snap 75 = .ok (.iadd, 1) := by decide +kernel
theorem dX8_snap_76 : decode cX8_snap 76 = .ok (.iaload, 1) := by decide +kernel
theorem dX8_snap_77 : decode cX8_snap 77 = .ok (.iastore, 1) := by decide +kernel
theorem dX8_snap_78 : decode cX8_snap 78 = .ok (.aload_n 0, 1) := by decide +kernel
theorem dX8_snap_79 : decode cX8_snap 79 = .ok (.getfield 7, 3) := by decide +kernel
theorem dX8_snap_82 : decode cX8_snap 82 = .ok (.bipush 42, 2) := by decide +kernel
theorem dX8_snap_84 : decode cX8_snap 84 = .ok (.iload_n 1, 1) := by decide +kernel
theorem dX8_snap_85 : decode cX8_snap 85 = .ok (.iadd, 1) := by decide +kernel
theorem dX8_snap_86 : decode cX8_snap 86 = .ok (.iload 4, 2) := by decide +kernel
theorem dX8_snap_88 : decode cX8_snap 88 = .ok (.iastore, 1) := by decide +kernel
theorem dX8_snap_89 : decode cX8_snap 89 = .ok (.aload_n 0, 1) := by decide +kernel
theorem dX8_snap_90 : decode cX8_snap 90 = .ok (.getfield 7, 3) := by decide +kernel
theorem dX8_snap_93 : decode cX8_snap 93 = .ok (.bipush 62, 2) := by decide +kernel
theorem dX8_snap_95 : decode cX8_snap 95 = .ok (.iload 4, 2) := by decide +kernel
theorem dX8_snap_97 : decode cX8_snap 97 = .ok (.iadd, 1) := by decide +kernel
theorem dX8_snap_98 : decode cX8_snap 98 = .ok (.iload_n 1, 1) := by decide +kernel
theorem dX8_snap_99 : decode cX8_snap 99 = .ok (.iastore, 1) := by decide +kernel
theorem dX8_snap_100 : decode cX8_snap 100 = .ok (.aload_n 0, 1) := by decide +kernel
theorem dX8_snap_101 : decode cX8_snap 101 = .ok (.getfield 7, 3) := by decide +kernel
theorem dX8_snap_104 : decode cX8_snap 104 = .ok (.bipush 102, 2) := by decide +kernel
theorem dX8_snap_106 : decode cX8_snap 106 = .ok (.iload 4, 2) := by decide +kernel
theorem dX8_snap_108 : decode cX8_snap 108 = .ok (.iadd, 1) := by decide +kernel
theorem dX8_snap_109 : decode cX8_snap 109 = .ok (.iload_n 2, 1) := by decide +kernel
theorem dX8_snap_110 : decode cX8_snap 110 = .ok (.iastore, 1) := by decide +kernel
theorem dX8_snap_111 : decode cX8_snap 111 = .ok (.aload_n 0, 1) := by decide +kernel
theorem dX8_snap_112 : decode cX8_snap 112 = .ok (.getfield 7, 3) := by decide +kernel
theorem dX8_snap_115 : decode cX8_snap 115 = .ok (.iconst 0, 1) := by decide +kernel
theorem dX8_snap_116 : decode cX8_snap 116 = .ok (.dup2, 1) := by decide +kernel
theorem dX8_snap_117 : decode cX8_snap 117 = .ok (.iaload, 1) := by decide +kernel
theorem dX8_snap_118 : decode cX8_snap 118 = .ok (.iconst 1, 1) := by decide +kernel
theorem dX8_snap_119 : decode cX8_snap 119 = .ok (.iadd, 1) := by decide +kernel
theorem dX8_snap_120 : decode cX8_snap 120 = .ok (.iastore, 1) := by decide +kernel
theorem dX8_snap_121 : decode cX8_snap 121 = .ok (.iload 4, 2) := by decide +kernel
theorem dX8_snap_123 : decode cX8_snap 123 = .ok (.ireturn, 1) := by decide +kernel
set_option maxRecDepth 20000 in
theorem ggX8_tag_X8_in : GoodIn wsX8_tag wsX8_in := goodIn_r _ [5] (by decide +kernel) (by decide +kernel)
set_option maxRecDepth 20000 in
theorem gX8_tag_X8_in : GoodIn wsX8_tag (va_wsS RX8 42 yX8_in wsX8_in) := goodIn_app (goodIn_of _ (by decide +kernel)) ggX8_tag_X8_in
set_option maxRecDepth 20000 in
theorem ggX8_tag_X8_asked : GoodIn wsX8_tag wsX8_asked := goodIn_r _ [9, 1, 10, 11, 12, 4, 13, 2, 3, 5, 14, 15, 16, 17, 18, 19, 20, 21, 22, 23, 24, 25, 26, 27, 28, 29, 30, 31, 32, 33] (by decide +kernel) (by decide +kernel)
set_option maxRecDepth 20000 in
theorem gX8_tag_X8_asked : GoodIn wsX8_tag (wsV RX8 92 RX8 yX8_asked wsX8_asked) := goodIn_app (goodIn_of _ (by decide +kernel)) ggX8_tag_X8_asked
theorem dX8_tag_0 : decode cX8_tag 0 = .ok (.iload_n 2, 1) := by decide +kernel
theorem dX8_tag_1 : decode cX8_tag 1 = .ok (.iconst 0, 1) := by decide +kernel
theorem dX8_tag_2 : decode cX8_tag 2 = .ok (.bipush 9, 2) := by decide +kernel
theorem dX8_tag_4 : decode cX8_tag 4 = .ok (.invokestatic 42, 3) := by decide +kernel
theorem dX8_tag_7 : decode cX8_tag 7 = .ok (.ifCond .ne 6, 3) := by decide +kernel
theorem dX8_tag_10 : decode cX8_tag 10 = .ok (.bipush (-2), 2) := by decide +kernel
theorem dX8_tag_12 : decode cX8_tag 12 = .ok (.ireturn, 1) := by decide +kernel
theorem dX8_tag_13 : decode cX8_tag 13 = .ok (.aload_n 0, 1) := by decide +kernel
theorem dX8_tag_14 : decode cX8_tag 14 = .ok (.iload_n 1, 1) := by decide +kernel
theorem dX8_tag_15 : decode cX8_tag 15 = .ok (.iconst 3, 1) := by decide +kernel
theorem dX8_tag_16 : decode cX8_tag 16 = .ok (.invokevirtual 92, 3) := by decide +kernel
theorem dX8_tag_19 : decode cX8_tag 19 = .ok (.istore_n 3, 1) := by decide +kernel
theorem dX8_tag_20 : decode cX8_tag 20 = .ok (.iload_n 3, 1) := by decide +kernel
theorem dX8_tag_21 : decode cX8_tag 21 = .ok (.ifCond .eq 5, 3) := by decide +kernel
theorem dX8_tag_24 : decode cX8_tag 24 = .ok (.iload_n 3, 1) := by decide +kernel
theorem dX8_tag_25 : decode cX8_tag 25 = .ok (.ireturn, 1) := by decide +kernel
theorem dX8_tag_26 : decode cX8_tag 26 = .ok (.aload_n 0, 1) := by decide +kernel
theorem dX8_tag_27 : decode cX8_tag 27 = .ok (.getfield 7, 3) := by decide +kernel
theorem dX8_tag_30 : decode cX8_tag 30 = .ok (.bipush 102, 2) := by decide +kernel
theorem dX8_tag_32 : decode cX8_tag 32 = .ok (.iload_n 1, 1) := by decide +kernel
theorem dX8_tag_33 : decode cX8_tag 33 = .ok (.iadd, 1) := by decide +kernel
theorem dX8_tag_34 : decode cX8_tag 34 = .ok (.iaload, 1) := by decide +kernel
theorem dX8_tag_35 : decode cX8_tag 35 = .ok (.istore 4, 2) := by decide +kernel
theorem dX8_tag_37 : decode cX8_tag 37 = .ok (.aload_n 0, 1) := by decide +kernel
theorem dX8_tag_38 : decode cX8_tag 38 = .ok (.getfield 7, 3) := by decide +kernel
theorem dX8_tag_41 : decode cX8_tag 41 = .ok (.bipush 102, 2) := by decide +kernel
theorem dX8_tag_43 : decode cX8_tag 43 = .ok (.iload_n 1, 1) := by decide +kernel
theorem dX8_tag_44 : decode cX8_tag 44 = .ok (.iadd, 1) := by decide +kernel
theorem dX8_tag_45 : decode cX8_tag 45 = .ok (.iload_n 2, 1) := by decide +kernel
theorem dX8_tag_46 : decode cX8_tag 46 = .ok (.iastore, 1) := by decide +kernel
theorem dX8_tag_47 : decode cX8_tag 47 = .ok (.iload 4, 2) := by decide +kernel
theorem dX8_tag_49 : decode cX8_tag 49 = .ok (.ireturn, 1) := by decide +kernel
set_option maxRecDepth 20000 in
theorem ggX8_mark_X8_asked : GoodIn wsX8_mark wsX8_asked := goodIn_r _ [6, 1, 7, 8, 9, 5, 10, 11, 12, 13, 14, 15, 16, 17, 18, 19, 20, 29, 30, 31, 32, 33, 34, 35, 36, 37, 38, 39, 40, 41] (by decide +kernel) (by decide +kernel)
set_option maxRecDepth 20000 in
theorem gX8_mark_X8_asked : GoodIn wsX8_mark (wsV RX8 92 RX8 yX8_asked wsX8_asked) := goodIn_app (goodIn_of _ (by decide +kernel)) ggX8_mark_X8_asked
set_option maxRecDepth 20000 in
theorem ggX8_mark_X8_newThing : GoodIn wsX8_mark wsX8_newThing := goodIn_r _ [24, 1, 29, 30, 31, 32, 33, 34, 35, 36, 37, 38, 39, 40, 41] (by decide +kernel) (by decide +kernel)
set_option maxRecDepth 20000 in
theorem gX8_mark_X8_newThing : GoodIn wsX8_mark (wsV RX8 70 RX8 yX8_newThing wsX8_newThing) := goodIn_app (goodIn_of _ (by decide +kernel)) ggX8_mark_X8_newThing
set_option maxRecDepth 20000 in
theorem ggX8_mark_X8_comes : GoodIn wsX8_mark wsX8_comes := goodIn_r _ [28, 1, 21, 22, 23, 5, 24, 29, 30, 31, 32, 33, 34, 35, 36, 37, 38, 39, 40, 41] (by decide +kernel) (by decide +kernel)
set_option maxRecDepth 20000 in
theorem gX8_mark_X8_comes : GoodIn wsX8_mark (wsV RX8 75 RX8 yX8_comes wsX8_comes) := goodIn_app (goodIn_of _ (by decide +kernel)) ggX8_mark_X8_comes
theorem dX8_mark_0 : decode cX8_mark 0 = .ok (.aload_n 0, 1) := by decide +kernel
theorem dX8_mark_1 : decode cX8_mark 1 = .ok (.iload_n 1, 1) := by decide +kernel
theorem dX8_mark_2 : decode cX8_mark 2 = .ok (.iconst 2, 1) := by decide +kernel
theorem dX8_mark_3 : decode cX8_mark 3 = .ok (.invokevirtual 92, 3) := by decide +kernel
theorem dX8_mark_6 : decode cX8_mark 6 = .ok (.istore_n 2, 1) := by decide +kernel
theorem dX8_mark_7 : decode cX8_mark 7 = .ok (.iload_n 2, 1) := by decide +kernel
theorem dX8_mark_8 : decode cX8_mark 8 = .ok (.ifCond .eq 5, 3) := by decide +kernel
theorem dX8_mark_11 : decode cX8_mark 11 = .ok (.iload_n 2, 1) := by decide +kernel
theorem dX8_mark_12 : decode cX8_mark 12 = .ok (.ireturn, 1) := by decide +kernel
theorem dX8_mark_13 : decode cX8_mark 13 = .ok (.aload_n 0, 1) := by decide +kernel
theorem dX8_mark_14 : decode cX8_mark 14 = .ok (.invokevirtual 70, 3) := by decide +kernel
theorem dX8_mark_17 : decode cX8_mark 17 = .ok (.bipush 20, 2) := by decide +kernel
theorem dX8_mark_19 : decode cX8_mark 19 = .ok (.if_icmp .ne 8, 3) := by decide +kernel
theorem dX8_mark_22 : decode cX8_mark 22 = .ok (.bipush (-4), 2) := by decide +kernel
theorem dX8_mark_24 : decode cX8_mark 24 = .ok (.goto 17, 3) := by decide +kernel
theorem dX8_mark_27 : decode cX8_mark 27 = .ok (.aload_n 0, 1) := by decide +kernel
theorem dX8_mark_28 : decode cX8_mark 28 = .ok (.iconst 4, 1) := by decide +kernel
theorem dX8_mark_29 : decode cX8_mark 29 = .ok (.aload_n 0, 1) := by decide +kernel
theorem dX8_mark_30 : decode cX8_mark 30 = .ok (.getfield 7, 3) := by decide +kernel
theorem dX8_mark_33 : decode cX8_mark 33 = .ok (.bipush 22, 2) := by decide +kernel
theorem dX8_mark_35 : decode cX8_mark 35 = .ok (.iload_n 1, 1) := by decide +kernel
theorem dX8_mark_36 : decode cX8_mark 36 = .ok (.iadd, 1) := by decide +kernel
theorem dX8_mark_37 : decode cX8_mark 37 = .ok (.iaload, 1) := by decide +kernel
theorem dX8_mark_38 : decode cX8_mark 38 = .ok (.invokevirtual 75, 3) := by decide +kernel
theorem dX8_mark_41 : decode cX8_mark 41 = .ok (.ireturn, 1) := by decide +kernel
set_option maxRecDepth 20000 in
theorem ggX8_nexts_X8_hasSlots : GoodIn wsX8_nexts wsX8_hasSlots := goodIn_r _ [6, 7, 8, 9, 5, 10, 1, 11, 12, 13, 14, 15, 16, 17, 18, 19, 20, 21, 22, 23, 24, 25, 26, 27, 28, 29, 30, 31, 32, 33, 34, 35, 36, 37] (by decide +kernel) (by decide +kernel)
set_option maxRecDepth 20000 in
theorem gX8_nexts_X8_hasSlots : GoodIn wsX8_nexts (wsV RX8 64 RX8 yX8_hasSlots wsX8_hasSlots) := goodIn_app (goodIn_of _ (by decide +kernel)) ggX8_nexts_X8_hasSlots
theorem dX8_nexts_0 : decode cX8_nexts 0 = .ok (.iconst 0, 1) := by decide +kernel
theorem dX8_nexts_1 : decode cX8_nexts 1 = .ok (.istore_n 2, 1) := by decide +kernel
theorem dX8_nexts_2 : decode cX8_nexts 2 = .ok (.iconst 0, 1) := by decide +kernel
theorem dX8_nexts_3 : decode cX8_nexts 3 = .ok (.istore_n 3, 1) := by decide +kernel
theorem dX8_nexts_4 : decode cX8_nexts 4 = .ok (.iload_n 3, 1) := by decide +kernel
theorem dX8_nexts_5 : decode cX8_nexts 5 = .ok (.bipush 20, 2) := by decide +kernel
theorem dX8_nexts_7 : decode cX8_nexts 7 = .ok (.if_icmp .ge 38, 3) := by decide +kernel
theorem dX8_nexts_10 : decode cX8_nexts 10 = .ok (.iload_n 2, 1) := by decide +kernel
theorem dX8_nexts_11 : decode cX8_nexts 11 = .ok (.aload_n 0, 1) := by decide +kernel
theorem dX8_nexts_12 : decode cX8_nexts 12 = .ok (.iload_n 3, 1) := by decide +kernel
theorem dX8_nexts_13 : decode cX8_nexts 13 = .ok (.invokevirtual 64, 3) := by decide +kernel
theorem dX8_nexts_16 : decode cX8_nexts 16 = .ok (.ifCond .eq 20, 3) := by decide +kernel
theorem dX8_nexts_19 : decode cX8_nexts 19 = .ok (.aload_n 0, 1) := by decide +kernel
theorem dX8_nexts_20 : decode cX8_nexts 20 = .ok (.getfield 7, 3) := by decide +kernel
theorem dX8_nexts_23 : decode cX8_nexts 23 = .ok (.bipush 42, 2) := by decide +kernel
theorem dX8_nexts_25 : decode cX8_nexts 25 = .ok (.iload_n 3, 1) := by decide +kernel
theorem dX8_nexts_26 : decode cX8_nexts 26 = .ok (.iadd, 1) := by decide +kernel
theorem dX8_nexts_27 : decode cX8_nexts 27 = .ok (.iaload, 1) := by decide +kernel
theorem dX8_nexts_28 : decode cX8_nexts 28 = .ok (.iload_n 1, 1) := by decide +kernel
theorem dX8_nexts_29 : decode cX8_nexts 29 = .ok (.if_icmp .ne 7, 3) := by decide +kernel
theorem dX8_nexts_32 : decode cX8_nexts 32 = .ok (.iconst 1, 1) := by decide +kernel
theorem dX8_nexts_33 : decode cX8_nexts 33 = .ok (.goto 4, 3) := by decide +kernel
theorem dX8_nexts_36 : decode cX8_nexts 36 = .ok (.iconst 0, 1) := by decide +kernel
theorem dX8_nexts_37 : decode cX8_nexts 37 = .ok (.iadd, 1) := by decide +kernel
theorem dX8_nexts_38 : decode cX8_nexts 38 = .ok (.istore_n 2, 1) := by decide +kernel
theorem dX8_nexts_39 : decode cX8_nexts 39 = .ok (.iinc 3 1, 3) := by decide +kernel
theorem dX8_nexts_42 : decode cX8_nexts 42 = .ok (.goto (-38), 3) := by decide +kernel
theorem dX8_nexts_45 : decode cX8_nexts 45 = .ok (.iload_n 2, 1) := by decide +kernel
theorem dX8_nexts_46 : decode cX8_nexts 46 = .ok (.ireturn, 1) := by decide +kernel
set_option maxRecDepth 20000 in
theorem ggX8_owned_X8_isSnapshot : GoodIn wsX8_owned wsX8_isSnapshot := goodIn_r _ [6, 1, 7, 8, 9, 5, 10, 11, 12, 13, 14, 15, 16, 17, 18, 19, 20, 21, 22, 23, 24, 25, 26, 27, 28, 29] (by decide +kernel) (by decide +kernel)
set_option maxRecDepth 20000 in
theorem gX8_owned_X8_isSnapshot : GoodIn wsX8_owned (wsV RX8 57 RX8 yX8_isSnapshot wsX8_isSnapshot) := goodIn_app (goodIn_of _ (by decide +kernel)) ggX8_owned_X8_isSnapshot
theorem dX8_owned_0 : decode cX8_owned 0 = .ok (.iconst 0, 1) := by decide +kernel
theorem dX8_owned_1 : decode cX8_owned 1 = .ok (.istore_n 2, 1) := by decide +kernel
theorem dX8_owned_2 : decode cX8_owned 2 = .ok (.iconst 0, 1) := by decide +kernel
theorem dX8_owned_3 : decode cX8_owned 3 = .ok (.istore_n 3, 1) := by decide +kernel
theorem dX8_owned_4 : decode cX8_owned 4 = .ok (.iload_n 3, 1) := by decide +kernel
theorem dX8_owned_5 : decode cX8_owned 5 = .ok (.bipush 20, 2) := by decide +kernel
theorem dX8_owned_7 : decode cX8_owned 7 = .ok (.if_icmp .ge 38, 3) := by decide +kernel
theorem dX8_owned_10 : decode cX8_owned 10 = .ok (.iload_n 2, 1) := by decide +kernel
theorem dX8_owned_11 : decode cX8_owned 11 = .ok (.aload_n 0, 1) := by decide +kernel
theorem dX8_owned_12 : decode cX8_owned 12 = .ok (.iload_n 3, 1) := by decide +kernel
theorem dX8_owned_13 : decode cX8_owned 13 = .ok (.invokevirtual 57, 3) := by decide +kernel
theorem dX8_owned_16 : decode cX8_owned 16 = .ok (.ifCond .eq 20, 3) := by decide +kernel
theorem dX8_owned_19 : decode cX8_owned 19 = .ok (.aload_n 0, 1) := by decide +kernel
theorem dX8_owned_20 : decode cX8_owned 20 = .ok (.getfield 7, 3) := by decide +kernel
theorem dX8_owned_23 : decode cX8_owned 23 = .ok (.bipush 62, 2) := by decide +kernel
theorem dX8_owned_25 : decode cX8_owned 25 = .ok (.iload_n 3, 1) := by decide +kernel
theorem dX8_owned_26 : decode cX8_owned 26 = .ok (.iadd, 1) := by decide +kernel
theorem dX8_owned_27 : decode cX8_owned 27 = .ok (.iaload, 1) := by decide +kernel
theorem dX8_owned_28 : decode cX8_owned 28 = .ok (.iload_n 1, 1) := by decide +kernel
theorem dX8_owned_29 : decode cX8_owned 29 = .ok (.if_icmp .ne 7, 3) := by decide +kernel
theorem dX8_owned_32 : decode cX8_owned 32 = .ok (.iconst 1, 1) := by decide +kernel
theorem dX8_owned_33 : decode cX8_owned 33 = .ok (.goto 4, 3) := by decide +kernel
theorem dX8_owned_36 : decode cX8_owned 36 = .ok (.iconst 0, 1) := by decide +kernel
theorem dX8_owned_37 : decode cX8_owned 37 = .ok (.iadd, 1) := by decide +kernel
theorem dX8_owned_38 : decode cX8_owned 38 = .ok (.istore_n 2, 1) := by decide +kernel
theorem dX8_owned_39 : decode cX8_owned 39 = .ok (.iinc 3 1, 3) := by decide +kernel
theorem dX8_owned_42 : decode cX8_owned 42 = .ok (.goto (-38), 3) := by decide +kernel
theorem dX8_owned_45 : decode cX8_owned 45 = .ok (.iload_n 2, 1) := by decide +kernel
theorem dX8_owned_46 : decode cX8_owned 46 = .ok (.ireturn, 1) := by decide +kernel
set_option maxRecDepth 20000 in
theorem ggX8_isLoose_X8_nexts : GoodIn wsX8_isLoose wsX8_nexts := goodIn_r _ [6, 1, 7, 8, 9, 5, 10, 11, 12, 13, 14, 15, 16, 17, 18, 19, 20, 21, 22, 23, 24, 25, 26, 27, 28, 29, 30, 31, 32, 33, 34, 35, 36, 37, 38, 39, 40, 41] (by decide +kernel) (by decide +kernel)
set_option maxRecDepth 20000 in
theorem gX8_isLoose_X8_nexts : GoodIn wsX8_isLoose (wsV RX8 106 RX8 yX8_nexts wsX8_nexts) := goodIn_app (goodIn_of _ (by decide +kernel)) ggX8_isLoose_X8_nexts
theorem dX8_isLoose_0 : decode cX8_isLoose 0 = .ok (.aload_n 0, 1) := by decide +kernel
theorem dX8_isLoose_1 : decode cX8_isLoose 1 = .ok (.getfield 7, 3) := by decide +kernel
theorem dX8_isLoose_4 : decode cX8_isLoose 4 = .ok (.bipush 102, 2) := by decide +kernel
theorem dX8_isLoose_6 : decode cX8_isLoose 6 = .ok (.iload_n 1, 1) := by decide +kernel
theorem dX8_isLoose_7 : decode cX8_isLoose 7 = .ok (.iadd, 1) := by decide +kernel
theorem dX8_isLoose_8 : decode cX8_isLoose 8 = .ok (.iaload, 1) := by decide +kernel
theorem dX8_isLoose_9 : decode cX8_isLoose 9 = .ok (.ifCond .ne 16, 3) := by decide +kernel
theorem dX8_isLoose_12 : decode cX8_isLoose 12 = .ok (.aload_n 0, 1) := by decide +kernel
theorem dX8_isLoose_13 : decode cX8_isLoose 13 = .ok (.iload_n 1, 1) := by decide +kernel
theorem dX8_isLoose_14 : decode cX8_isLoose 14 = .ok (.invokevirtual 106, 3) := by decide +kernel
theorem dX8_isLoose_17 : decode cX8_isLoose 17 = .ok (.iconst 1, 1) := by decide +kernel
theorem dX8_isLoose_18 : decode cX8_isLoose 18 = .ok (.if_icmp .ne 7, 3) := by decide +kernel
theorem dX8_isLoose_21 : decode cX8_isLoose 21 = .ok (.iconst 1, 1) := by decide +kernel
theorem dX8_isLoose_22 : decode cX8_isLoose 22 = .ok (.goto 4, 3) := by decide +kernel
theorem dX8_isLoose_25 : decode cX8_isLoose 25 = .ok (.iconst 0, 1) := by decide +kernel
theorem dX8_isLoose_26 : decode cX8_isLoose 26 = .ok (.ireturn, 1) := by decide +kernel
set_option maxRecDepth 20000 in
theorem ggX8_removed_X8_hasSlots : GoodIn wsX8_removed wsX8_hasSlots := goodIn_r _ [6, 7, 8, 9, 5, 10, 1, 11, 12, 13, 14, 15, 16, 17, 18, 19, 20, 21, 22, 23, 24, 34, 35, 36, 37, 38, 39, 40, 41, 42, 43, 44, 45, 46] (by decide +kernel) (by decide +kernel)
set_option maxRecDepth 20000 in
theorem gX8_removed_X8_hasSlots : GoodIn wsX8_removed (wsV RX8 64 RX8 yX8_hasSlots wsX8_hasSlots) := goodIn_app (goodIn_of _ (by decide +kernel)) ggX8_removed_X8_hasSlots
set_option maxRecDepth 20000 in
theorem ggX8_removed_X8_frees : GoodIn wsX8_removed wsX8_frees := goodIn_r _ [28, 1, 29, 30, 31, 32, 5, 33, 2, 3, 4, 6, 7, 8, 9, 10, 11, 12, 13, 14, 15, 16, 17, 18, 19, 20, 21, 22, 23, 24, 34, 35, 36, 37, 38, 39, 40, 41, 42, 43, 44, 45, 46] (by decide +kernel) (by decide +kernel)
set_option maxRecDepth 20000 in
theorem gX8_removed_X8_frees : GoodIn wsX8_removed (wsV RX8 89 RX8 yX8_frees wsX8_frees) := goodIn_app (goodIn_of _ (by decide +kernel)) ggX8_removed_X8_frees
theorem dX8_removed_0 : decode cX8_removed 0 = .ok (.iconst 0, 1) := by decide +kernel
theorem dX8_removed_1 : decode cX8_removed 1 = .ok (.istore_n 2, 1) := by decide +kernel
theorem dX8_removed_2 : decode cX8_removed 2 = .ok (.iload_n 2, 1) := by decide +kernel
theorem dX8_removed_3 : decode cX8_removed 3 = .ok (.bipush 20, 2) := by decide +kernel
theorem dX8_removed_5 : decode cX8_removed 5 = .ok (.if_icmp .ge 48, 3) := by decide +kernel
theorem dX8_removed_8 : decode cX8_removed 8 = .ok (.aload_n 0, 1) := by decide +kernel
theorem dX8_removed_9 : decode cX8_removed 9 = .ok (.iload_n 2, 1) := by decide +kernel
theorem dX8_removed_10 : decode cX8_removed 10 = .ok (.invokevirtual 64, 3) := by decide +kernel
theorem dX8_removed_13 : decode cX8_removed 13 = .ok (.ifCond .eq 34, 3) := by decide +kernel
theorem dX8_removed_16 : decode cX8_removed 16 = .ok (.aload_n 0, 1) := by decide +kernel
theorem dX8_removed_17 : decode cX8_removed 17 = .ok (.getfield 7, 3) := by decide +kernel
theorem dX8_removed_20 : decode cX8_removed 20 = .ok (.bipush 42, 2) := by decide +kernel
theorem dX8_removed_22 : decode cX8_removed 22 = .ok (.iload_n 2, 1) := by decide +kernel
theorem dX8_removed_23 : decode cX8_removed 23 = .ok (.iadd, 1) := by decide +kernel
theorem dX8_removed_24 : decode cX8_removed 24 = .ok (.iaload, 1) := by decide +kernel
theorem dX8_removed_25 : decode cX8_removed 25 = .ok (.iload_n 1, 1) := by decide +kernel
theorem dX8_removed_26 : decode cX8_removed 26 = .ok (.if_icmp .ne 21, 3) := by decide +kernel
theorem dX8_removed_29 : decode cX8_removed 29 = .ok (.aload_n 0, 1) := by decide +kernel
theorem dX8_removed_30 : decode cX8_removed 30 = .ok (.getfield 7, 3) := by decide +kernel
theorem dX8_removed_33 : decode cX8_removed 33 = .ok (.bipush 42, 2) := by decide +kernel
theorem dX8_removed_35 : decode cX8_removed 35 = .ok (.iload_n 2, 1) := by decide +kernel
theorem dX8_removed_36 : decode cX8_removed 36 = .ok (.iadd, 1) := by decide +kernel
theorem dX8_removed_37 : decode cX8_removed 37 = .ok (.aload_n 0, 1) := by decide +kernel
theorem dX8_removed_38 : decode cX8_removed 38 = .ok (.getfield 7, 3) := by decide +kernel
theorem dX8_removed_41 : decode cX8_removed 41 = .ok (.bipush 42, 2) := by decide +kernel
theorem dX8_removed_43 : decode cX8_removed 43 = .ok (.iload_n 1, 1) := by decide +kernel
theorem dX8_removed_44 : decode cX8_removed 44 = .ok (.iadd, 1) := by decide +kernel
theorem dX8_removed_45 : decode cX8_removed 45 = .ok (.iaload, 1) := by decide +kernel
theorem dX8_removed_46 : decode cX8_removed 46 = .ok (.iastore, 1) := by decide +kernel
theorem dX8_removed_47 : decode cX8_removed 47 = .ok (.iinc 2 1, 3) := by decide +kernel
theorem dX8_removed_50 : decode cX8_removed 50 = .ok (.goto (-48), 3) := by decide +kernel
theorem dX8_removed_53 : decode cX8_removed 53 = .ok (.aload_n 0, 1) := by decide +kernel
theorem dX8_removed_54 : decode cX8_removed 54 = .ok (.getfield 7, 3) := by decide +kernel
theorem dX8_removed_57 : decode cX8_removed 57 = .ok (.iconst 2, 1) := by decide +kernel
theorem dX8_removed_58 : decode cX8_removed 58 = .ok (.iload_n 1, 1) := by decide +kernel
theorem dX8_removed_59 : decode cX8_removed 59 = .ok (.iadd, 1) := by decide +kernel
theorem dX8_removed_60 : decode cX8_removed 60 = .ok (.iconst (-1), 1) := by decide +kernel
theorem dX8_removed_61 : decode cX8_removed 61 = .ok (.iastore, 1) := by decide +kernel
theorem dX8_removed_62 : decode cX8_removed 62 = .ok (.aload_n 0, 1) := by decide +kernel
theorem dX8_removed_63 : decode cX8_removed 63 = .ok (.invokevirtual 89, 3) := by decide +kernel
theorem dX8_removed_66 : decode cX8_removed 66 = .ok (.ireturn, 1) := by decide +kernel
set_option maxRecDepth 20000 in
theorem ggX8_remove_X8_there : GoodIn wsX8_remove wsX8_there := goodIn_r _ [6, 7, 8, 5, 9, 10, 11, 12, 13, 1, 50, 51, 52, 53, 54, 55, 56, 57, 58, 59, 60, 61, 62] (by decide +kernel) (by decide +kernel)
set_option maxRecDepth 20000 in
theorem gX8_remove_X8_there : GoodIn wsX8_remove (wsV RX8 60 RX8 yX8_there wsX8_there) := goodIn_app (goodIn_of _ (by decide +kernel)) ggX8_remove_X8_there
set_option maxRecDepth 20000 in
theorem ggX8_remove_X8_isSnapshot : GoodIn wsX8_remove wsX8_isSnapshot := goodIn_r _ [17, 1, 10, 11, 12, 5, 13, 7, 8, 9, 18, 19, 20, 50, 51, 52, 53, 54, 55, 56, 57, 58, 59, 60, 61, 62] (by decide +kernel) (by decide +kernel)
set_option maxRecDepth 20000 in
theorem gX8_remove_X8_isSnapshot : GoodIn wsX8_remove (wsV RX8 57 RX8 yX8_isSnapshot wsX8_isSnapshot) := goodIn_app (goodIn_of _ (by decide +kernel)) ggX8_remove_X8_isSnapshot
set_option maxRecDepth 20000 in
theorem ggX8_remove_X8_nexts : GoodIn wsX8_remove wsX8_nexts := goodIn_r _ [24, 1, 25, 26, 27, 5, 28, 29, 30, 31, 32, 10, 11, 12, 13, 7, 8, 9, 18, 19, 20, 14, 15, 16, 17, 50, 51, 52, 53, 54, 55, 56, 57, 58, 59, 60, 61, 62] (by decide +kernel) (by decide +kernel)
set_option maxRecDepth 20000 in
theorem gX8_remove_X8_nexts : GoodIn wsX8_remove (wsV RX8 106 RX8 yX8_nexts wsX8_nexts) := goodIn_app (goodIn_of _ (by decide +kernel)) ggX8_remove_X8_nexts
set_option maxRecDepth 20000 in
theorem ggX8_remove_X8_isFiles : GoodIn wsX8_remove wsX8_isFiles := goodIn_r _ [32, 1, 10, 11, 12, 5, 13, 7, 8, 9, 18, 19, 20, 50, 51, 52, 53, 54, 55, 56, 57, 58, 59, 60, 61, 62] (by decide +kernel) (by decide +kernel)
set_option maxRecDepth 20000 in
theorem gX8_remove_X8_isFiles : GoodIn wsX8_remove (wsV RX8 54 RX8 yX8_isFiles wsX8_isFiles) := goodIn_app (goodIn_of _ (by decide +kernel)) ggX8_remove_X8_isFiles
set_option maxRecDepth 20000 in
theorem ggX8_remove_X8_owned : GoodIn wsX8_remove wsX8_owned := goodIn_r _ [36, 1, 14, 15, 16, 5, 17, 10, 11, 12, 13, 7, 8, 9, 18, 19, 20, 50, 51, 52, 53, 54, 55, 56, 57, 58, 59, 60, 61, 62] (by decide +kernel) (by decide +kernel)
set_option maxRecDepth 20000 in
theorem gX8_remove_X8_owned : GoodIn wsX8_remove (wsV RX8 109 RX8 yX8_owned wsX8_owned) := goodIn_app (goodIn_of _ (by decide +kernel)) ggX8_remove_X8_owned
set_option maxRecDepth 20000 in
theorem ggX8_remove_X8_removed : GoodIn wsX8_remove wsX8_removed := goodIn_r _ [40, 1, 25, 26, 27, 5, 28, 29, 30, 31, 32, 10, 11, 12, 13, 7, 8, 9, 18, 19, 20, 14, 15, 16, 17, 41, 42, 43, 44, 45, 46, 47, 48, 49, 50, 51, 52, 53, 54, 55, 56, 57, 58, 59, 60, 61, 62] (by decide +kernel) (by decide +kernel)
set_option maxRecDepth 20000 in
theorem gX8_remove_X8_removed : GoodIn wsX8_remove (wsV RX8 112 RX8 yX8_removed wsX8_removed) := goodIn_app (goodIn_of _ (by decide +kernel)) ggX8_remove_X8_removed
theorem dX8_remove_0 : decode cX8_remove 0 = .ok (.aload_n 0, 1) := by decide +kernel
theorem dX8_remove_1 : decode cX8_remove 1 = .ok (.iload_n 1, 1) := by decide +kernel
theorem dX8_remove_2 : decode cX8_remove 2 = .ok (.invokevirtual 60, 3) := by decide +kernel
theorem dX8_remove_5 : decode cX8_remove 5 = .ok (.istore_n 2, 1) := by decide +kernel
theorem dX8_remove_6 : decode cX8_remove 6 = .ok (.iload_n 2, 1) := by decide +kernel
theorem dX8_remove_7 : decode cX8_remove 7 = .ok (.ifCond .eq 5, 3) := by decide +kernel
theorem dX8_remove_10 : decode cX8_remove 10 = .ok (.iload_n 2, 1) := by decide +kernel
theorem dX8_remove_11 : decode cX8_remove 11 = .ok (.ireturn, 1) := by decide +kernel
theorem dX8_remove_12 : decode cX8_remove 12 = .ok (.aload_n 0, 1) := by decide +kernel
theorem dX8_remove_13 : decode cX8_remove 13 = .ok (.iload_n 1, 1) := by decide +kernel
theorem dX8_remove_14 : decode cX8_remove 14 = .ok (.invokevirtual 57, 3) := by decide +kernel
theorem dX8_remove_17 : decode cX8_remove 17 = .ok (.ifCond .eq 24, 3) := by decide +kernel
theorem dX8_remove_20 : decode cX8_remove 20 = .ok (.aload_n 0, 1) := by decide +kernel
theorem dX8_remove_21 : decode cX8_remove 21 = .ok (.getfield 7, 3) := by decide +kernel
theorem dX8_remove_24 : decode cX8_remove 24 = .ok (.bipush 102, 2) := by decide +kernel
theorem dX8_remove_26 : decode cX8_remove 26 = .ok (.iload_n 1, 1) := by decide +kernel
theorem dX8_remove_27 : decode cX8_remove 27 = .ok (.iadd, 1) := by decide +kernel
theorem dX8_remove_28 : decode cX8_remove 28 = .ok (.iaload, 1) := by decide +kernel
theorem dX8_remove_29 : decode cX8_remove 29 = .ok (.ifCond .ne 28, 3) := by decide +kernel
theorem dX8_remove_32 : decode cX8_remove 32 = .ok (.aload_n 0, 1) := by decide +kernel
theorem dX8_remove_33 : decode cX8_remove 33 = .ok (.iload_n 1, 1) := by decide +kernel
theorem dX8_remove_34 : decode cX8_remove 34 = .ok (.invokevirtual 106, 3) := by decide +kernel
theorem dX8_remove_37 : decode cX8_remove 37 = .ok (.iconst 1, 1) := by decide +kernel
theorem dX8_remove_38 : decode cX8_remove 38 = .ok (.if_icmp .gt 19, 3) := by decide +kernel
theorem dX8_remove_41 : decode cX8_remove 41 = .ok (.aload_n 0, 1) := by decide +kernel
theorem dX8_remove_42 : decode cX8_remove 42 = .ok (.iload_n 1, 1) := by decide +kernel
theorem dX8_remove_43 : decode cX8_remove 43 = .ok (.invokevirtual 54, 3) := by decide +kernel
theorem dX8_remove_46 : decode cX8_remove 46 = .ok (.ifCond .eq 14, 3) := by decide +kernel
theorem dX8_remove_49 : decode cX8_remove 49 = .ok (.aload_n 0, 1) := by decide +kernel
theorem dX8_remove_50 : decode cX8_remove 50 = .ok (.iload_n 1, 1) := by decide +kernel
theorem dX8_remove_51 : decode cX8_remove 51 = .ok (.invokevirtual 109, 3) := by decide +kernel
theorem dX8_remove_54 : decode cX8_remove 54 = .ok (.ifCond .le 6, 3) := by decide +kernel
theorem dX8_remove_57 : decode cX8_remove 57 = .ok (.bipush (-3), 2) := by decide +kernel
theorem dX8_remove_59 : decode cX8_remove 59 = .ok (.ireturn, 1) := by decide +kernel
theorem dX8_remove_60 : decode cX8_remove 60 = .ok (.aload_n 0, 1) := by decide +kernel
theorem dX8_remove_61 : decode cX8_remove 61 = .ok (.iload_n 1, 1) := by decide +kernel
theorem dX8_remove_62 : decode cX8_remove 62 = .ok (.invokevirtual 112, 3) := by decide +kernel
theorem dX8_remove_65 : decode cX8_remove 65 = .ok (.ireturn, 1) := by decide +kernel
set_option maxRecDepth 20000 in
theorem ggX8_fork_X8_asked : GoodIn wsX8_fork wsX8_asked := goodIn_r _ [6, 1, 7, 8, 9, 5, 10, 11, 12, 13, 14, 15, 16, 17, 18, 19, 20, 33, 34, 35, 36, 37, 38, 39, 40, 41, 42, 43, 44, 45] (by decide +kernel) (by decide +kernel)
set_option maxRecDepth 20000 in
theorem gX8_fork_X8_asked : GoodIn wsX8_fork (wsV RX8 92 RX8 yX8_asked wsX8_asked) := goodIn_app (goodIn_of _ (by decide +kernel)) ggX8_fork_X8_asked
set_option maxRecDepth 20000 in
theorem ggX8_fork_X8_newThing : GoodIn wsX8_fork wsX8_newThing := goodIn_r _ [24, 1, 33, 34, 35, 36, 37, 38, 39, 40, 41, 42, 43, 44, 45] (by decide +kernel) (by decide +kernel)
set_option maxRecDepth 20000 in
theorem gX8_fork_X8_newThing : GoodIn wsX8_fork (wsV RX8 70 RX8 yX8_newThing wsX8_newThing) := goodIn_app (goodIn_of _ (by decide +kernel)) ggX8_fork_X8_newThing
set_option maxRecDepth 20000 in
theorem ggX8_fork_X8_comes : GoodIn wsX8_fork wsX8_comes := goodIn_r _ [28, 1, 21, 22, 23, 5, 24, 33, 34, 35, 36, 37, 38, 39, 40, 41, 42, 43, 44, 45] (by decide +kernel) (by decide +kernel)
set_option maxRecDepth 20000 in
theorem gX8_fork_X8_comes : GoodIn wsX8_fork (wsV RX8 75 RX8 yX8_comes wsX8_comes) := goodIn_app (goodIn_of _ (by decide +kernel)) ggX8_fork_X8_comes
set_option maxRecDepth 20000 in
theorem ggX8_fork_X8_takesSlots : GoodIn wsX8_fork wsX8_takesSlots := goodIn_r _ [32, 1, 33, 34, 35, 36, 37, 38, 39, 40, 41, 42, 43, 44, 45] (by decide +kernel) (by decide +kernel)
set_option maxRecDepth 20000 in
theorem gX8_fork_X8_takesSlots : GoodIn wsX8_fork (wsV RX8 102 RX8 yX8_takesSlots wsX8_takesSlots) := goodIn_app (goodIn_of _ (by decide +kernel)) ggX8_fork_X8_takesSlots
theorem dX8_fork_0 : decode cX8_fork 0 = .ok (.aload_n 0, 1) := by decide +kernel
theorem dX8_fork_1 : decode cX8_fork 1 = .ok (.iload_n 1, 1) := by decide +kernel
theorem dX8_fork_2 : decode cX8_fork 2 = .ok (.iconst 2, 1) := by decide +kernel
theorem dX8_fork_3 : decode cX8_fork 3 = .ok (.invokevirtual 92, 3) := by decide +kernel
theorem dX8_fork_6 : decode cX8_fork 6 = .ok (.istore_n 2, 1) := by decide +kernel
theorem dX8_fork_7 : decode cX8_fork 7 = .ok (.iload_n 2, 1) := by decide +kernel
theorem dX8_fork_8 : decode cX8_fork 8 = .ok (.ifCond .eq 5, 3) := by decide +kernel
theorem dX8_fork_11 : decode cX8_fork 11 = .ok (.iload_n 2, 1) := by decide +kernel
theorem dX8_fork_12 : decode cX8_fork 12 = .ok (.ireturn, 1) := by decide +kernel
theorem dX8_fork_13 : decode cX8_fork 13 = .ok (.aload_n 0, 1) := by decide +kernel
theorem dX8_fork_14 : decode cX8_fork 14 = .ok (.invokevirtual 70, 3) := by decide +kernel
theorem dX8_fork_17 : decode cX8_fork 17 = .ok (.bipush 20, 2) := by decide +kernel
theorem dX8_fork_19 : decode cX8_fork 19 = .ok (.if_icmp .ne 6, 3) := by decide +kernel
theorem dX8_fork_22 : decode cX8_fork 22 = .ok (.bipush (-4), 2) := by decide +kernel
theorem dX8_fork_24 : decode cX8_fork 24 = .ok (.ireturn, 1) := by decide +kernel
theorem dX8_fork_25 : decode cX8_fork 25 = .ok (.aload_n 0, 1) := by decide +kernel
theorem dX8_fork_26 : decode cX8_fork 26 = .ok (.iconst 0, 1) := by decide +kernel
theorem dX8_fork_27 : decode cX8_fork 27 = .ok (.aload_n 0, 1) := by decide +kernel
theorem dX8_fork_28 : decode cX8_fork 28 = .ok (.getfield 7, 3) := by decide +kernel
theorem dX8_fork_31 : decode cX8_fork 31 = .ok (.iconst 0, 1) := by decide +kernel
theorem dX8_fork_32 : decode cX8_fork 32 = .ok (.iaload, 1) := by decide +kernel
theorem dX8_fork_33 : decode cX8_fork 33 = .ok (.invokevirtual 75, 3) := by decide +kernel
theorem dX8_fork_36 : decode cX8_fork 36 = .ok (.istore_n 3, 1) := by decide +kernel
theorem dX8_fork_37 : decode cX8_fork 37 = .ok (.aload_n 0, 1) := by decide +kernel
theorem dX8_fork_38 : decode cX8_fork 38 = .ok (.iload_n 3, 1) := by decide +kernel
theorem dX8_fork_39 : decode cX8_fork 39 = .ok (.iload_n 1, 1) := by decide +kernel
theorem dX8_fork_40 : decode cX8_fork 40 = .ok (.invokevirtual 102, 3) := by decide +kernel
theorem dX8_fork_43 : decode cX8_fork 43 = .ok (.aload_n 0, 1) := by decide +kernel
theorem dX8_fork_44 : decode cX8_fork 44 = .ok (.getfield 7, 3) := by decide +kernel
theorem dX8_fork_47 : decode cX8_fork 47 = .ok (.bipush 42, 2) := by decide +kernel
theorem dX8_fork_49 : decode cX8_fork 49 = .ok (.iload_n 3, 1) := by decide +kernel
theorem dX8_fork_50 : decode cX8_fork 50 = .ok (.iadd, 1) := by decide +kernel
theorem dX8_fork_51 : decode cX8_fork 51 = .ok (.iload_n 1, 1) := by decide +kernel
theorem dX8_fork_52 : decode cX8_fork 52 = .ok (.iastore, 1) := by decide +kernel
theorem dX8_fork_53 : decode cX8_fork 53 = .ok (.iload_n 3, 1) := by decide +kernel
theorem dX8_fork_54 : decode cX8_fork 54 = .ok (.ireturn, 1) := by decide +kernel
theorem dX8_originOf_0 : decode cX8_originOf 0 = .ok (.aload_n 0, 1) := by decide +kernel
theorem dX8_originOf_1 : decode cX8_originOf 1 = .ok (.getfield 7, 3) := by decide +kernel
theorem dX8_originOf_4 : decode cX8_originOf 4 = .ok (.bipush 42, 2) := by decide +kernel
theorem dX8_originOf_6 : decode cX8_originOf 6 = .ok (.iload_n 1, 1) := by decide +kernel
theorem dX8_originOf_7 : decode cX8_originOf 7 = .ok (.iadd, 1) := by decide +kernel
theorem dX8_originOf_8 : decode cX8_originOf 8 = .ok (.iaload, 1) := by decide +kernel
theorem dX8_originOf_9 : decode cX8_originOf 9 = .ok (.istore_n 2, 1) := by decide +kernel
theorem dX8_originOf_10 : decode cX8_originOf 10 = .ok (.iload_n 2, 1) := by decide +kernel
theorem dX8_originOf_11 : decode cX8_originOf 11 = .ok (.iconst (-1), 1) := by decide +kernel
theorem dX8_originOf_12 : decode cX8_originOf 12 = .ok (.if_icmp .eq 29, 3) := by decide +kernel
theorem dX8_originOf_15 : decode cX8_originOf 15 = .ok (.aload_n 0, 1) := by decide +kernel
theorem dX8_originOf_16 : decode cX8_originOf 16 = .ok (.getfield 7, 3) := by decide +kernel
theorem dX8_originOf_19 : decode cX8_originOf 19 = .ok (.bipush 62, 2) := by decide +kernel
theorem dX8_originOf_21 : decode cX8_originOf 21 = .ok (.iload_n 2, 1) := by decide +kernel
theorem dX8_originOf_22 : decode cX8_originOf 22 = .ok (.iadd, 1) := by decide +kernel
theorem dX8_originOf_23 : decode cX8_originOf 23 = .ok (.iaload, 1) := by decide +kernel
theorem dX8_originOf_24 : decode cX8_originOf 24 = .ok (.iload_n 1, 1) := by decide +kernel
theorem dX8_originOf_25 : decode cX8_originOf 25 = .ok (.if_icmp .ne 16, 3) := by decide +kernel
theorem dX8_originOf_28 : decode cX8_originOf 28 = .ok (.aload_n 0, 1) := by decide +kernel
theorem dX8_originOf_29 : decode cX8_originOf 29 = .ok (.getfield 7, 3) := by decide +kernel
theorem dX8_originOf_32 : decode cX8_originOf 32 = .ok (.bipush 42, 2) := by decide +kernel
theorem dX8_originOf_34 : decode cX8_originOf 34 = .ok (.iload_n 2, 1) := by decide +kernel
theorem dX8_originOf_35 : decode cX8_originOf 35 = .ok (.iadd, 1) := by decide +kernel
theorem dX8_originOf_36 : decode cX8_originOf 36 = .ok (.iaload, 1) := by decide +kernel
theorem dX8_originOf_37 : decode cX8_originOf 37 = .ok (.istore_n 2, 1) := by decide +kernel
theorem dX8_originOf_38 : decode cX8_originOf 38 = .ok (.goto (-28), 3) := by decide +kernel
theorem dX8_originOf_41 : decode cX8_originOf 41 = .ok (.iload_n 2, 1) := by decide +kernel
theorem dX8_originOf_42 : decode cX8_originOf 42 = .ok (.ireturn, 1) := by decide +kernel
set_option maxRecDepth 20000 in
theorem ggX8_promote_X8_asked : GoodIn wsX8_promote wsX8_asked := goodIn_r _ [6, 1, 7, 8, 9, 5, 10, 11, 12, 13, 14, 15, 16, 17, 18, 19, 20, 25, 26, 27, 28, 29, 30, 31, 32, 33, 34, 35, 36, 37] (by decide +kernel) (by decide +kernel)
set_option maxRecDepth 20000 in
theorem gX8_promote_X8_asked : GoodIn wsX8_promote (wsV RX8 92 RX8 yX8_asked wsX8_asked) := goodIn_app (goodIn_of _ (by decide +kernel)) ggX8_promote_X8_asked
set_option maxRecDepth 20000 in
theorem ggX8_promote_X8_originOf : GoodIn wsX8_promote wsX8_originOf := goodIn_r _ [24, 1, 25, 26, 27, 28, 29, 30, 31, 32, 33, 34, 35, 36, 37] (by decide +kernel) (by decide +kernel)
set_option maxRecDepth 20000 in
theorem gX8_promote_X8_originOf : GoodIn wsX8_promote (wsV RX8 115 RX8 yX8_originOf wsX8_originOf) := goodIn_app (goodIn_of _ (by decide +kernel)) ggX8_promote_X8_originOf
theorem dX8_promote_0 : decode cX8_promote 0 = .ok (.aload_n 0, 1) := by decide +kernel
theorem dX8_promote_1 : decode cX8_promote 1 = .ok (.iload_n 1, 1) := by decide +kernel
theorem dX8_promote_2 : decode cX8_promote 2 = .ok (.iconst 0, 1) := by decide +kernel
theorem dX8_promote_3 : decode cX8_promote 3 = .ok (.invokevirtual 92, 3) := by decide +kernel
theorem dX8_promote_6 : decode cX8_promote 6 = .ok (.istore_n 2, 1) := by decide +kernel
theorem dX8_promote_7 : decode cX8_promote 7 = .ok (.iload_n 2, 1) := by decide +kernel
theorem dX8_promote_8 : decode cX8_promote 8 = .ok (.ifCond .eq 5, 3) := by decide +kernel
theorem dX8_promote_11 : decode cX8_promote 11 = .ok (.iload_n 2, 1) := by decide +kernel
theorem dX8_promote_12 : decode cX8_promote 12 = .ok (.ireturn, 1) := by decide +kernel
theorem dX8_promote_13 : decode cX8_promote 13 = .ok (.aload_n 0, 1) := by decide +kernel
theorem dX8_promote_14 : decode cX8_promote 14 = .ok (.iload_n 1, 1) := by decide +kernel
theorem dX8_promote_15 : decode cX8_promote 15 = .ok (.invokevirtual 115, 3) := by decide +kernel
theorem dX8_promote_18 : decode cX8_promote 18 = .ok (.istore_n 3, 1) := by decide +kernel
theorem dX8_promote_19 : decode cX8_promote 19 = .ok (.iload_n 3, 1) := by decide +kernel
theorem dX8_promote_20 : decode cX8_promote 20 = .ok (.iconst (-1), 1) := by decide +kernel
theorem dX8_promote_21 : decode cX8_promote 21 = .ok (.if_icmp .ne 6, 3) := by decide +kernel
theorem dX8_promote_24 : decode cX8_promote 24 = .ok (.bipush (-3), 2) := by decide +kernel
theorem dX8_promote_26 : decode cX8_promote 26 = .ok (.ireturn, 1) := by decide +kernel
theorem dX8_promote_27 : decode cX8_promote 27 = .ok (.aload_n 0, 1) := by decide +kernel
theorem dX8_promote_28 : decode cX8_promote 28 = .ok (.getfield 7, 3) := by decide +kernel
theorem dX8_promote_31 : decode cX8_promote 31 = .ok (.bipush 62, 2) := by decide +kernel
theorem dX8_promote_33 : decode cX8_promote 33 = .ok (.iload_n 3, 1) := by decide +kernel
theorem dX8_promote_34 : decode cX8_promote 34 = .ok (.iadd, 1) := by decide +kernel
theorem dX8_promote_35 : decode cX8_promote 35 = .ok (.iaload, 1) := by decide +kernel
theorem dX8_promote_36 : decode cX8_promote 36 = .ok (.istore 4, 2) := by decide +kernel
theorem dX8_promote_38 : decode cX8_promote 38 = .ok (.iconst 0, 1) := by decide +kernel
theorem dX8_promote_39 : decode cX8_promote 39 = .ok (.istore 5, 2) := by decide +kernel
theorem dX8_promote_41 : decode cX8_promote 41 = .ok (.aload_n 0, 1) := by decide +kernel
theorem dX8_promote_42 : decode cX8_promote 42 = .ok (.getfield 7, 3) := by decide +kernel
theorem dX8_promote_45 : decode cX8_promote 45 = .ok (.bipush 42, 2) := by decide +kernel
theorem dX8_promote_47 : decode cX8_promote 47 = .ok (.iload_n 1, 1) := by decide +kernel
theorem dX8_promote_48 : decode cX8_promote 48 = .ok (.iadd, 1) := by decide +kernel
theorem dX8_promote_49 : decode cX8_promote 49 = .ok (.iaload, 1) := by decide +kernel
theorem dX8_promote_50 : decode cX8_promote 50 = .ok (.istore 6, 2) := by decide +kernel
theorem dX8_promote_52 : decode cX8_promote 52 = .ok (.iload 6, 2) := by decide +kernel
theorem dX8_promote_54 : decode cX8_promote 54 = .ok (.iconst (-1), 1) := by decide +kernel
theorem dX8_promote_55 : decode cX8_promote 55 = .ok (.if_icmp .eq 47, 3) := by decide +kernel
theorem dX8_promote_58 : decode cX8_promote 58 = .ok (.aload_n 0, 1) := by decide +kernel
theorem dX8_promote_59 : decode cX8_promote 59 = .ok (.getfield 7, 3) := by decide +kernel
theorem dX8_promote_62 : decode cX8_promote 62 = .ok (.bipush 62, 2) := by decide +kernel
theorem dX8_promote_64 : decode cX8_promote 64 = .ok (.iload 6, 2) := by decide +kernel
theorem dX8_promote_66 : decode cX8_promote 66 = .ok (.iadd, 1) := by decide +kernel
theorem dX8_promote_67 : decode cX8_promote 67 = .ok (.iaload, 1) := by decide +kernel
theorem dX8_promote_68 : decode cX8_promote 68 = .ok (.iload 4, 2) := by decide +kernel
theorem dX8_promote_70 : decode cX8_promote 70 = .ok (.if_icmp .ne 17, 3) := by decide +kernel
theorem dX8_promote_73 : decode cX8_promote 73 = .ok (.aload_n 0, 1) := by decide +kernel
theorem dX8_promote_74 : decode cX8_promote 74 = .ok (.getfield 7, 3) := by decide +kernel
theorem dX8_promote_77 : decode cX8_promote 77 = .ok (.bipush 62, 2) := by decide +kernel
theorem dX8_promote_79 : decode cX8_promote 79 = .ok (.iload 6, 2) := by decide +kernel
theorem dX8_promote_81 : decode cX8_promote 81 = .ok (.iadd, 1) := by decide +kernel
theorem dX8_promote_82 : decode cX8_promote 82 = .ok (.iload_n 1, 1) := by decide +kernel
theorem dX8_promote_83 : decode cX8_promote 83 = .ok (.iastore, 1) := by decide +kernel
theorem dX8_promote_84 : decode cX8_promote 84 = .ok (.iinc 5 1, 3) := by decide +kernel
theorem dX8_promote_87 : decode cX8_promote 87 = .ok (.aload_n 0, 1) := by decide +kernel
theorem dX8_promote_88 : decode cX8_promote 88 = .ok (.getfield 7, 3) := by decide +kernel
theorem dX8_promote_91 : decode cX8_promote 91 = .ok (.bipush 42, 2) := by decide +kernel
theorem dX8_promote_93 : decode cX8_promote 93 = .ok (.iload 6, 2) := by decide +kernel
theorem dX8_promote_95 : decode cX8_promote 95 = .ok (.iadd, 1) := by decide +kernel
theorem dX8_promote_96 : decode cX8_promote 96 = .ok (.iaload, 1) := by decide +kernel
theorem dX8_promote_97 : decode cX8_promote 97 = .ok (.istore 6, 2) := by decide +kernel
theorem dX8_promote_99 : decode cX8_promote 99 = .ok (.goto (-47), 3) := by decide +kernel
theorem dX8_promote_102 : decode cX8_promote 102 = .ok (.iload 5, 2) := by decide +kernel
theorem dX8_promote_104 : decode cX8_promote 104 = .ok (.ireturn, 1) := by decide +kernel
set_option maxRecDepth 20000 in
theorem ggX8_rollback_X8_asked : GoodIn wsX8_rollback wsX8_asked := goodIn_r _ [6, 1, 7, 8, 9, 5, 10, 11, 12, 13, 14, 15, 16, 17, 18, 19, 20, 46, 47, 48, 49, 50, 51, 52, 53, 54, 55, 56, 57, 58] (by decide +kernel) (by decide +kernel)
set_option maxRecDepth 20000 in
theorem gX8_rollback_X8_asked : GoodIn wsX8_rollback (wsV RX8 92 RX8 yX8_asked wsX8_asked) := goodIn_app (goodIn_of _ (by decide +kernel)) ggX8_rollback_X8_asked
set_option maxRecDepth 20000 in
theorem ggX8_rollback_X8_takesSlots : GoodIn wsX8_rollback wsX8_takesSlots := goodIn_r _ [24, 1, 46, 47, 48, 49, 50, 51, 52, 53, 54, 55, 56, 57, 58] (by decide +kernel) (by decide +kernel)
set_option maxRecDepth 20000 in
theorem gX8_rollback_X8_takesSlots : GoodIn wsX8_rollback (wsV RX8 102 RX8 yX8_takesSlots wsX8_takesSlots) := goodIn_app (goodIn_of _ (by decide +kernel)) ggX8_rollback_X8_takesSlots
set_option maxRecDepth 20000 in
theorem ggX8_rollback_X8_frees : GoodIn wsX8_rollback wsX8_frees := goodIn_r _ [28, 1, 29, 30, 31, 32, 5, 33, 34, 35, 36, 37, 38, 39, 40, 41, 14, 15, 16, 17, 11, 12, 13, 18, 19, 20, 42, 43, 44, 45, 46, 47, 48, 49, 50, 51, 52, 53, 54, 55, 56, 57, 58] (by decide +kernel) (by decide +kernel)
set_option maxRecDepth 20000 in
theorem gX8_rollback_X8_frees : GoodIn wsX8_rollback (wsV RX8 89 RX8 yX8_frees wsX8_frees) := goodIn_app (goodIn_of _ (by decide +kernel)) ggX8_rollback_X8_frees
theorem dX8_rollback_0 : decode cX8_rollback 0 = .ok (.aload_n 0, 1) := by decide +kernel
theorem dX8_rollback_1 : decode cX8_rollback 1 = .ok (.iload_n 1, 1) := by decide +kernel
theorem dX8_rollback_2 : decode cX8_rollback 2 = .ok (.iconst 0, 1) := by decide +kernel
theorem dX8_rollback_3 : decode cX8_rollback 3 = .ok (.invokevirtual 92, 3) := by decide +kernel
theorem dX8_rollback_6 : decode cX8_rollback 6 = .ok (.istore_n 2, 1) := by decide +kernel
theorem dX8_rollback_7 : decode cX8_rollback 7 = .ok (.iload_n 2, 1) := by decide +kernel
theorem dX8_rollback_8 : decode cX8_rollback 8 = .ok (.ifCond .eq 5, 3) := by decide +kernel
theorem dX8_rollback_11 : decode cX8_rollback 11 = .ok (.iload_n 2, 1) := by decide +kernel
theorem dX8_rollback_12 : decode cX8_rollback 12 = .ok (.ireturn, 1) := by decide +kernel
theorem dX8_rollback_13 : decode cX8_rollback 13 = .ok (.aload_n 0, 1) := by decide +kernel
theorem dX8_rollback_14 : decode cX8_rollback 14 = .ok (.getfield 7, 3) := by decide +kernel
theorem dX8_rollback_17 : decode cX8_rollback 17 = .ok (.bipush 42, 2) := by decide +kernel
theorem dX8_rollback_19 : decode cX8_rollback 19 = .ok (.iload_n 1, 1) := by decide +kernel
theorem dX8_rollback_20 : decode cX8_rollback 20 = .ok (.iadd, 1) := by decide +kernel
theorem dX8_rollback_21 : decode cX8_rollback 21 = .ok (.iaload, 1) := by decide +kernel
theorem dX8_rollback_22 : decode cX8_rollback 22 = .ok (.iconst (-1), 1) := by decide +kernel
theorem dX8_rollback_23 : decode cX8_rollback 23 = .ok (.if_icmp .ne 6, 3) := by decide +kernel
theorem dX8_rollback_26 : decode cX8_rollback 26 = .ok (.bipush (-3), 2) := by decide +kernel
theorem dX8_rollback_28 : decode cX8_rollback 28 = .ok (.ireturn, 1) := by decide +kernel
theorem dX8_rollback_29 : decode cX8_rollback 29 = .ok (.aload_n 0, 1) := by decide +kernel
theorem dX8_rollback_30 : decode cX8_rollback 30 = .ok (.iload_n 1, 1) := by decide +kernel
theorem dX8_rollback_31 : decode cX8_rollback 31 = .ok (.aload_n 0, 1) := by decide +kernel
theorem dX8_rollback_32 : decode cX8_rollback 32 = .ok (.getfield 7, 3) := by decide +kernel
theorem dX8_rollback_35 : decode cX8_rollback 35 = .ok (.bipush 42, 2) := by decide +kernel
theorem dX8_rollback_37 : decode cX8_rollback 37 = .ok (.iload_n 1, 1) := by decide +kernel
theorem dX8_rollback_38 : decode cX8_rollback 38 = .ok (.iadd, 1) := by decide +kernel
theorem dX8_rollback_39 : decode cX8_rollback 39 = .ok (.iaload, 1) := by decide +kernel
theorem dX8_rollback_40 : decode cX8_rollback 40 = .ok (.invokevirtual 102, 3) := by decide +kernel
theorem dX8_rollback_43 : decode cX8_rollback 43 = .ok (.aload_n 0, 1) := by decide +kernel
theorem dX8_rollback_44 : decode cX8_rollback 44 = .ok (.invokevirtual 89, 3) := by decide +kernel
theorem dX8_rollback_47 : decode cX8_rollback 47 = .ok (.ireturn, 1) := by decide +kernel
theorem dX8_tick_0 : decode cX8_tick 0 = .ok (.aload_n 0, 1) := by decide +kernel
theorem dX8_tick_1 : decode cX8_tick 1 = .ok (.getfield 7, 3) := by decide +kernel
theorem dX8_tick_4 : decode cX8_tick 4 = .ok (.iconst 0, 1) := by decide +kernel
theorem dX8_tick_5 : decode cX8_tick 5 = .ok (.iaload, 1) := by decide +kernel
theorem dX8_tick_6 : decode cX8_tick 6 = .ok (.ldc 118, 2) := by decide +kernel
theorem dX8_tick_8 : decode cX8_tick 8 = .ok (.if_icmp .lt 6, 3) := by decide +kernel
theorem dX8_tick_11 : decode cX8_tick 11 = .ok (.bipush (-3), 2) := by decide +kernel
theorem dX8_tick_13 : decode cX8_tick 13 = .ok (.ireturn, 1) := by decide +kernel
theorem dX8_tick_14 : decode cX8_tick 14 = .ok (.aload_n 0, 1) := by decide +kernel
theorem dX8_tick_15 : decode cX8_tick 15 = .ok (.getfield 7, 3) := by decide +kernel
theorem dX8_tick_18 : decode cX8_tick 18 = .ok (.iconst 0, 1) := by decide +kernel
theorem dX8_tick_19 : decode cX8_tick 19 = .ok (.dup2, 1) := by decide +kernel
theorem dX8_tick_20 : decode cX8_tick 20 = .ok (.iaload, 1) := by decide +kernel
theorem dX8_tick_21 : decode cX8_tick 21 = .ok (.iconst 1, 1) := by decide +kernel
theorem dX8_tick_22 : decode cX8_tick 22 = .ok (.iadd, 1) := by decide +kernel
theorem dX8_tick_23 : decode cX8_tick 23 = .ok (.iastore, 1) := by decide +kernel
theorem dX8_tick_24 : decode cX8_tick 24 = .ok (.aload_n 0, 1) := by decide +kernel
theorem dX8_tick_25 : decode cX8_tick 25 = .ok (.getfield 7, 3) := by decide +kernel
theorem dX8_tick_28 : decode cX8_tick 28 = .ok (.iconst 0, 1) := by decide +kernel
theorem dX8_tick_29 : decode cX8_tick 29 = .ok (.iaload, 1) := by decide +kernel
theorem dX8_tick_30 : decode cX8_tick 30 = .ok (.ireturn, 1) := by decide +kernel
set_option maxRecDepth 20000 in
theorem ggX8_heldMany_X8_hasSlots : GoodIn wsX8_heldMany wsX8_hasSlots := goodIn_r _ [6, 7, 8, 9, 5, 10, 1, 11, 12, 13, 14, 15, 16, 17, 18, 19, 20, 21, 22, 23, 24, 25, 26, 27, 28, 29, 30, 31, 32, 33, 34, 35, 36, 37] (by decide +kernel) (by decide +kernel)
set_option maxRecDepth 20000 in
theorem gX8_heldMany_X8_hasSlots : GoodIn wsX8_heldMany (wsV RX8 64 RX8 yX8_hasSlots wsX8_hasSlots) := goodIn_app (goodIn_of _ (by decide +kernel)) ggX8_heldMany_X8_hasSlots
theorem dX8_heldMany_0 : decode cX8_heldMany 0 = .ok (.iconst 0, 1) := by decide +kernel
theorem dX8_heldMany_1 : decode cX8_heldMany 1 = .ok (.istore_n 2, 1) := by decide +kernel
theorem dX8_heldMany_2 : decode cX8_heldMany 2 = .ok (.iconst 0, 1) := by decide +kernel
theorem dX8_heldMany_3 : decode cX8_heldMany 3 = .ok (.istore_n 3, 1) := by decide +kernel
theorem dX8_heldMany_4 : decode cX8_heldMany 4 = .ok (.iload_n 3, 1) := by decide +kernel
theorem dX8_heldMany_5 : decode cX8_heldMany 5 = .ok (.bipush 12, 2) := by decide +kernel
theorem dX8_heldMany_7 : decode cX8_heldMany 7 = .ok (.if_icmp .ge 43, 3) := by decide +kernel
theorem dX8_heldMany_10 : decode cX8_heldMany 10 = .ok (.iload_n 2, 1) := by decide +kernel
theorem dX8_heldMany_11 : decode cX8_heldMany 11 = .ok (.aload_n 0, 1) := by decide +kernel
theorem dX8_heldMany_12 : decode cX8_heldMany 12 = .ok (.iload_n 1, 1) := by decide +kernel
theorem dX8_heldMany_13 : decode cX8_heldMany 13 = .ok (.invokevirtual 64, 3) := by decide +kernel
theorem dX8_heldMany_16 : decode cX8_heldMany 16 = .ok (.ifCond .eq 25, 3) := by decide +kernel
theorem dX8_heldMany_19 : decode cX8_heldMany 19 = .ok (.aload_n 0, 1) := by decide +kernel
theorem dX8_heldMany_20 : decode cX8_heldMany 20 = .ok (.getfield 7, 3) := by decide +kernel
theorem dX8_heldMany_23 : decode cX8_heldMany 23 = .ok (.bipush 122, 2) := by decide +kernel
theorem dX8_heldMany_25 : decode cX8_heldMany 25 = .ok (.bipush 12, 2) := by decide +kernel
theorem dX8_heldMany_27 : decode cX8_heldMany 27 = .ok (.iload_n 1, 1) := by decide +kernel
theorem dX8_heldMany_28 : decode cX8_heldMany 28 = .ok (.imul, 1) := by decide +kernel
theorem dX8_heldMany_29 : decode cX8_heldMany 29 = .ok (.iadd, 1) := by decide +kernel
theorem dX8_heldMany_30 : decode cX8_heldMany 30 = .ok (.iload_n 3, 1) := by decide +kernel
theorem dX8_heldMany_31 : decode cX8_heldMany 31 = .ok (.iadd, 1) := by decide +kernel
theorem dX8_heldMany_32 : decode cX8_heldMany 32 = .ok (.iaload, 1) := by decide +kernel
theorem dX8_heldMany_33 : decode cX8_heldMany 33 = .ok (.iconst (-1), 1) := by decide +kernel
theorem dX8_heldMany_34 : decode cX8_heldMany 34 = .ok (.if_icmp .eq 7, 3) := by decide +kernel
theorem dX8_heldMany_37 : decode cX8_heldMany 37 = .ok (.iconst 1, 1) := by decide +kernel
theorem dX8_heldMany_38 : decode cX8_heldMany 38 = .ok (.goto 4, 3) := by decide +kernel
theorem dX8_heldMany_41 : decode cX8_heldMany 41 = .ok (.iconst 0, 1) := by decide +kernel
theorem dX8_heldMany_42 : decode cX8_heldMany 42 = .ok (.iadd, 1) := by decide +kernel
theorem dX8_heldMany_43 : decode cX8_heldMany 43 = .ok (.istore_n 2, 1) := by decide +kernel
theorem dX8_heldMany_44 : decode cX8_heldMany 44 = .ok (.iinc 3 1, 3) := by decide +kernel
theorem dX8_heldMany_47 : decode cX8_heldMany 47 = .ok (.goto (-43), 3) := by decide +kernel
theorem dX8_heldMany_50 : decode cX8_heldMany 50 = .ok (.iload_n 2, 1) := by decide +kernel
theorem dX8_heldMany_51 : decode cX8_heldMany 51 = .ok (.ireturn, 1) := by decide +kernel
set_option maxRecDepth 20000 in
theorem ggX8_told_X8_in : GoodIn wsX8_told wsX8_in := goodIn_r _ [5] (by decide +kernel) (by decide +kernel)
set_option maxRecDepth 20000 in
theorem gX8_told_X8_in : GoodIn wsX8_told (va_wsS RX8 42 yX8_in wsX8_in) := goodIn_app (goodIn_of _ (by decide +kernel)) ggX8_told_X8_in
set_option maxRecDepth 20000 in
theorem ggX8_told_X8_there : GoodIn wsX8_told wsX8_there := goodIn_r _ [9, 2, 3, 4, 5, 10, 11, 12, 13, 1, 45, 46, 47, 48, 49, 50, 51, 52, 53, 54, 55, 56, 57] (by decide +kernel) (by decide +kernel)
set_option maxRecDepth 20000 in
theorem gX8_told_X8_there : GoodIn wsX8_told (wsV RX8 60 RX8 yX8_there wsX8_there) := goodIn_app (goodIn_of _ (by decide +kernel)) ggX8_told_X8_there
set_option maxRecDepth 20000 in
theorem ggX8_told_X8_isFiles : GoodIn wsX8_told wsX8_isFiles := goodIn_r _ [17, 1, 10, 11, 12, 4, 13, 2, 3, 5, 18, 19, 20, 45, 46, 47, 48, 49, 50, 51, 52, 53, 54, 55, 56, 57] (by decide +kernel) (by decide +kernel)
set_option maxRecDepth 20000 in
theorem gX8_told_X8_isFiles : GoodIn wsX8_told (wsV RX8 54 RX8 yX8_isFiles wsX8_isFiles) := goodIn_app (goodIn_of _ (by decide +kernel)) ggX8_told_X8_isFiles
set_option maxRecDepth 20000 in
theorem ggX8_told_X8_originOf : GoodIn wsX8_told wsX8_originOf := goodIn_r _ [24, 1, 45, 46, 47, 48, 49, 50, 51, 52, 53, 54, 55, 56, 57] (by decide +kernel) (by decide +kernel)
set_option maxRecDepth 20000 in
theorem gX8_told_X8_originOf : GoodIn wsX8_told (wsV RX8 115 RX8 yX8_originOf wsX8_originOf) := goodIn_app (goodIn_of _ (by decide +kernel)) ggX8_told_X8_originOf
set_option maxRecDepth 20000 in
theorem ggX8_told_X8_nexts : GoodIn wsX8_told wsX8_nexts := goodIn_r _ [28, 1, 29, 30, 31, 4, 32, 14, 15, 16, 17, 10, 11, 12, 13, 2, 3, 5, 18, 19, 20, 33, 34, 35, 36, 45, 46, 47, 48, 49, 50, 51, 52, 53, 54, 55, 56, 57] (by decide +kernel) (by decide +kernel)
set_option maxRecDepth 20000 in
theorem gX8_told_X8_nexts : GoodIn wsX8_told (wsV RX8 106 RX8 yX8_nexts wsX8_nexts) := goodIn_app (goodIn_of _ (by decide +kernel)) ggX8_told_X8_nexts
set_option maxRecDepth 20000 in
theorem ggX8_told_X8_heldMany : GoodIn wsX8_told wsX8_heldMany := goodIn_r _ [40, 1, 29, 30, 31, 4, 32, 14, 15, 16, 17, 10, 11, 12, 13, 2, 3, 5, 18, 19, 20, 33, 34, 35, 36, 45, 46, 47, 48, 49, 50, 51, 52, 53, 54, 55, 56, 57] (by decide +kernel) (by decide +kernel)
set_option maxRecDepth 20000 in
theorem gX8_told_X8_heldMany : GoodIn wsX8_told (wsV RX8 119 RX8 yX8_heldMany wsX8_heldMany) := goodIn_app (goodIn_of _ (by decide +kernel)) ggX8_told_X8_heldMany
set_option maxRecDepth 20000 in
theorem ggX8_told_X8_owned : GoodIn wsX8_told wsX8_owned := goodIn_r _ [44, 1, 33, 34, 35, 4, 36, 10, 11, 12, 13, 2, 3, 5, 18, 19, 20, 45, 46, 47, 48, 49, 50, 51, 52, 53, 54, 55, 56, 57] (by decide +kernel) (by decide +kernel)
set_option maxRecDepth 20000 in
theorem gX8_told_X8_owned : GoodIn wsX8_told (wsV RX8 109 RX8 yX8_owned wsX8_owned) := goodIn_app (goodIn_of _ (by decide +kernel)) ggX8_told_X8_owned
theorem dX8_told_0 : decode cX8_told 0 = .ok (.iload_n 2, 1) := by decide +kernel
theorem dX8_told_1 : decode cX8_told 1 = .ok (.iconst 0, 1) := by decide +kernel
theorem dX8_told_2 : decode cX8_told 2 = .ok (.bipush 9, 2) := by decide +kernel
theorem dX8_told_4 : decode cX8_told 4 = .ok (.invokestatic 42, 3) := by decide +kernel
theorem dX8_told_7 : decode cX8_told 7 = .ok (.ifCond .ne 6, 3) := by decide +kernel
theorem dX8_told_10 : decode cX8_told 10 = .ok (.bipush (-2), 2) := by decide +kernel
theorem dX8_told_12 : decode cX8_told 12 = .ok (.ireturn, 1) := by decide +kernel
theorem dX8_told_13 : decode cX8_told 13 = .ok (.aload_n 0, 1) := by decide +kernel
theorem dX8_told_14 : decode cX8_told 14 = .ok (.iload_n 1, 1) := by decide +kernel
theorem dX8_told_15 : decode cX8_told 15 = .ok (.invokevirtual 60, 3) := by decide +kernel
theorem dX8_told_18 : decode cX8_told 18 = .ok (.istore_n 3, 1) := by decide +kernel
theorem dX8_told_19 : decode cX8_told 19 = .ok (.iload_n 3, 1) := by decide +kernel
theorem dX8_told_20 : decode cX8_told 20 = .ok (.ifCond .eq 5, 3) := by decide +kernel
theorem dX8_told_23 : decode cX8_told 23 = .ok (.iload_n 3, 1) := by decide +kernel
theorem dX8_told_24 : decode cX8_told 24 = .ok (.ireturn, 1) := by decide +kernel
theorem dX8_told_25 : decode cX8_told 25 = .ok (.iload_n 2, 1) := by decide +kernel
theorem dX8_told_26 : decode cX8_told 26 = .ok (.tableswitch 139 0 8 #[50, 59, 69, 79, 89, 107, 113, 119, 129], 50) := by decide +kernel
theorem dX8_told_76 : decode cX8_told 76 = .ok (.aload_n 0, 1) := by decide +kernel
theorem dX8_told_77 : decode cX8_told 77 = .ok (.getfield 7, 3) := by decide +kernel
theorem dX8_told_80 : decode cX8_told 80 = .ok (.iconst 2, 1) := by decide +kernel
theorem dX8_told_81 : decode cX8_told 81 = .ok (.iload_n 1, 1) := by decide +kernel
theorem dX8_told_82 : decode cX8_told 82 = .ok (.iadd, 1) := by decide +kernel
theorem dX8_told_83 : decode cX8_told 83 = .ok (.iaload, 1) := by decide +kernel
theorem dX8_told_84 : decode cX8_told 84 = .ok (.ireturn, 1) := by decide +kernel
theorem dX8_told_85 : decode cX8_told 85 = .ok (.aload_n 0, 1) := by decide +kernel
theorem dX8_told_86 : decode cX8_told 86 = .ok (.getfield 7, 3) := by decide +kernel
theorem dX8_told_89 : decode cX8_told 89 = .ok (.bipush 22, 2) := by decide +kernel
theorem dX8_told_91 : decode cX8_told 91 = .ok (.iload_n 1, 1) := by decide +kernel
theorem dX8_told_92 : decode cX8_told 92 = .ok (.iadd, 1) := by decide +kernel
theorem dX8_told_93 : decode cX8_told 93 = .ok (.iaload, 1) := by decide +kernel
theorem dX8_told_94 : decode cX8_told 94 = .ok (.ireturn, 1) := by decide +kernel
theorem dX8_told_95 : decode cX8_told 95 = .ok (.aload_n 0, 1) := by decide +kernel
theorem dX8_told_96 : decode cX8_told 96 = .ok (.getfield 7, 3) := by decide +kernel
theorem dX8_told_99 : decode cX8_told 99 = .ok (.bipush 42, 2) := by decide +kernel
theorem dX8_told_101 : decode cX8_told 101 = .ok (.iload_n 1, 1) := by decide +kernel
theorem dX8_told_102 : decode cX8_told 102 = .ok (.iadd, 1) := by decide +kernel
theorem dX8_told_103 : decode cX8_told 103 = .ok (.iaload, 1) := by decide +kernel
theorem dX8_told_104 : decode cX8_told 104 = .ok (.ireturn, 1) := by decide +kernel
theorem dX8_told_105 : decode cX8_told 105 = .ok (.aload_n 0, 1) := by decide +kernel
theorem dX8_told_106 : decode cX8_told 106 = .ok (.getfield 7, 3) := by decide +kernel
theorem dX8_told_109 : decode cX8_told 109 = .ok (.bipush 62, 2) := by decide +kernel
theorem dX8_told_111 : decode cX8_told 111 = .ok (.iload_n 1, 1) := by decide +kernel
theorem dX8_told_112 : decode cX8_told 112 = .ok (.iadd, 1) := by decide +kernel
theorem dX8_told_113 : decode cX8_told 113 = .ok (.iaload, 1) := by decide +kernel
theorem dX8_told_114 : decode cX8_told 114 = .ok (.ireturn, 1) := by decide +kernel
theorem dX8_told_115 : decode cX8_told 115 = .ok (.aload_n 0, 1) := by decide +kernel
theorem dX8_told_116 : decode cX8_told 116 = .ok (.iload_n 1, 1) := by decide +kernel
theorem dX8_told_117 : decode cX8_told 117 = .ok (.invokevirtual 54, 3) := by decide +kernel
theorem dX8_told_120 : decode cX8_told 120 = .ok (.ifCond .eq 11, 3) := by decide +kernel
theorem dX8_told_123 : decode cX8_told 123 = .ok (.aload_n 0, 1) := by decide +kernel
theorem dX8_told_124 : decode cX8_told 124 = .ok (.iload_n 1, 1) := by decide +kernel
theorem dX8_told_125 : decode cX8_told 125 = .ok (.invokevirtual 115, 3) := by decide +kernel
theorem dX8_told_128 : decode cX8_told 128 = .ok (.goto 4, 3) := by decide +kernel
theorem dX8_told_131 : decode cX8_told 131 = .ok (.iconst (-1), 1) := by decide +kernel
theorem dX8_told_132 : decode cX8_told 132 = .ok (.ireturn, 1) := by decide +kernel
theorem dX8_told_133 : decode cX8_told 133 = .ok (.aload_n 0, 1) := by decide +kernel
theorem dX8_told_134 : decode cX8_told 134 = .ok (.iload_n 1, 1) := by decide +kernel
theorem dX8_told_135 : decode cX8_told 135 = .ok (.invokevirtual 106, 3) := by decide +kernel
theorem dX8_told_138 : decode cX8_told 138 = .ok (.ireturn, 1) := by decide +kernel
theorem dX8_told_139 : decode cX8_told 139 = .ok (.aload_n 0, 1) := by decide +kernel
theorem dX8_told_140 : decode cX8_told 140 = .ok (.iload_n 1, 1) := by decide +kernel
theorem dX8_told_141 : decode cX8_told 141 = .ok (.invokevirtual 119, 3) := by decide +kernel
theorem dX8_told_144 : decode cX8_told 144 = .ok (.ireturn, 1) := by decide +kernel
theorem dX8_told_145 : decode cX8_told 145 = .ok (.aload_n 0, 1) := by decide +kernel
theorem dX8_told_146 : decode cX8_told 146 = .ok (.getfield 7, 3) := by decide +kernel
theorem dX8_told_149 : decode cX8_told 149 = .ok (.bipush 102, 2) := by decide +kernel
theorem dX8_told_151 : decode cX8_told 151 = .ok (.iload_n 1, 1) := by decide +kernel
theorem dX8_told_152 : decode cX8_told 152 = .ok (.iadd, 1) := by decide +kernel
theorem dX8_told_153 : decode cX8_told 153 = .ok (.iaload, 1) := by decide +kernel
theorem dX8_told_154 : decode cX8_told 154 = .ok (.ireturn, 1) := by decide +kernel
theorem dX8_told_155 : decode cX8_told 155 = .ok (.aload_n 0, 1) := by decide +kernel
theorem dX8_told_156 : decode cX8_told 156 = .ok (.getfield 7, 3) := by decide +kernel
theorem dX8_told_159 : decode cX8_told 159 = .ok (.bipush 82, 2) := by decide +kernel
theorem dX8_told_161 : decode cX8_told 161 = .ok (.iload_n 1, 1) := by decide +kernel
theorem dX8_told_162 : decode cX8_told 162 = .ok (.iadd, 1) := by decide +kernel
theorem dX8_told_163 : decode cX8_told 163 = .ok (.iaload, 1) := by decide +kernel
theorem dX8_told_164 : decode cX8_told 164 = .ok (.ireturn, 1) := by decide +kernel
theorem dX8_told_165 : decode cX8_told 165 = .ok (.aload_n 0, 1) := by decide +kernel
theorem dX8_told_166 : decode cX8_told 166 = .ok (.iload_n 1, 1) := by decide +kernel
theorem dX8_told_167 : decode cX8_told 167 = .ok (.invokevirtual 109, 3) := by decide +kernel
theorem dX8_told_170 : decode cX8_told 170 = .ok (.ireturn, 1) := by decide +kernel
set_option maxRecDepth 20000 in
theorem ggX8_slot_X8_in : GoodIn wsX8_slot wsX8_in := goodIn_r _ [5] (by decide +kernel) (by decide +kernel)
set_option maxRecDepth 20000 in
theorem gX8_slot_X8_in : GoodIn wsX8_slot (va_wsS RX8 42 yX8_in wsX8_in) := goodIn_app (goodIn_of _ (by decide +kernel)) ggX8_slot_X8_in
set_option maxRecDepth 20000 in
theorem ggX8_slot_X8_askedSlots : GoodIn wsX8_slot wsX8_askedSlots := goodIn_r _ [9, 10, 11, 12, 4, 13, 2, 3, 5, 14, 15, 16, 17, 1, 18, 19, 20, 21, 22, 23, 24, 25, 26, 27, 28, 29, 30, 31, 32, 33, 34, 35, 36, 37, 38, 39, 40, 41, 42, 43, 44, 45] (by decide +kernel) (by decide +kernel)
set_option maxRecDepth 20000 in
theorem gX8_slot_X8_askedSlots : GoodIn wsX8_slot (wsV RX8 122 RX8 yX8_askedSlots wsX8_askedSlots) := goodIn_app (goodIn_of _ (by decide +kernel)) ggX8_slot_X8_askedSlots
theorem dX8_slot_0 : decode cX8_slot 0 = .ok (.iload_n 2, 1) := by decide +kernel
theorem dX8_slot_1 : decode cX8_slot 1 = .ok (.iconst 0, 1) := by decide +kernel
theorem dX8_slot_2 : decode cX8_slot 2 = .ok (.bipush 11, 2) := by decide +kernel
theorem dX8_slot_4 : decode cX8_slot 4 = .ok (.invokestatic 42, 3) := by decide +kernel
theorem dX8_slot_7 : decode cX8_slot 7 = .ok (.ifCond .ne 6, 3) := by decide +kernel
theorem dX8_slot_10 : decode cX8_slot 10 = .ok (.bipush (-2), 2) := by decide +kernel
theorem dX8_slot_12 : decode cX8_slot 12 = .ok (.ireturn, 1) := by decide +kernel
theorem dX8_slot_13 : decode cX8_slot 13 = .ok (.aload_n 0, 1) := by decide +kernel
theorem dX8_slot_14 : decode cX8_slot 14 = .ok (.iload_n 1, 1) := by decide +kernel
theorem dX8_slot_15 : decode cX8_slot 15 = .ok (.invokevirtual 122, 3) := by decide +kernel
theorem dX8_slot_18 : decode cX8_slot 18 = .ok (.istore_n 3, 1) := by decide +kernel
theorem dX8_slot_19 : decode cX8_slot 19 = .ok (.iload_n 3, 1) := by decide +kernel
theorem dX8_slot_20 : decode cX8_slot 20 = .ok (.ifCond .eq 7, 3) := by decide +kernel
theorem dX8_slot_23 : decode cX8_slot 23 = .ok (.iload_n 3, 1) := by decide +kernel
theorem dX8_slot_24 : decode cX8_slot 24 = .ok (.goto 17, 3) := by decide +kernel
theorem dX8_slot_27 : decode cX8_slot 27 = .ok (.aload_n 0, 1) := by decide +kernel
theorem dX8_slot_28 : decode cX8_slot 28 = .ok (.getfield 7, 3) := by decide +kernel
theorem dX8_slot_31 : decode cX8_slot 31 = .ok (.bipush 122, 2) := by decide +kernel
theorem dX8_slot_33 : decode cX8_slot 33 = .ok (.bipush 12, 2) := by decide +kernel
theorem dX8_slot_35 : decode cX8_slot 35 = .ok (.iload_n 1, 1) := by decide +kernel
theorem dX8_slot_36 : decode cX8_slot 36 = .ok (.imul, 1) := by decide +kernel
theorem dX8_slot_37 : decode cX8_slot 37 = .ok (.iadd, 1) := by decide +kernel
theorem dX8_slot_38 : decode cX8_slot 38 = .ok (.iload_n 2, 1) := by decide +kernel
theorem dX8_slot_39 : decode cX8_slot 39 = .ok (.iadd, 1) := by decide +kernel
theorem dX8_slot_40 : decode cX8_slot 40 = .ok (.iaload, 1) := by decide +kernel
theorem dX8_slot_41 : decode cX8_slot 41 = .ok (.ireturn, 1) := by decide +kernel
set_option maxRecDepth 20000 in
theorem ggX8_block_X8_in : GoodIn wsX8_block wsX8_in := goodIn_r _ [6] (by decide +kernel) (by decide +kernel)
set_option maxRecDepth 20000 in
theorem gX8_block_X8_in : GoodIn wsX8_block (va_wsS RX8 42 yX8_in wsX8_in) := goodIn_app (goodIn_of _ (by decide +kernel)) ggX8_block_X8_in
set_option maxRecDepth 20000 in
theorem ggX8_block_X8_counts : GoodIn wsX8_block wsX8_counts := goodIn_r _ [10, 2, 1, 11, 12, 13, 5, 14, 15, 16, 17, 18, 19, 20, 21, 22, 3, 4, 6, 23, 24, 25, 26, 27, 28, 29, 30, 31, 32, 33, 34, 35, 36, 37, 38, 39, 40, 41, 42] (by decide +kernel) (by decide +kernel)
set_option maxRecDepth 20000 in
theorem gX8_block_X8_counts : GoodIn wsX8_block (wsV RX8 67 RX8 yX8_counts wsX8_counts) := goodIn_app (goodIn_of _ (by decide +kernel)) ggX8_block_X8_counts
theorem dX8_block_0 : decode cX8_block 0 = .ok (.iload_n 2, 1) := by decide +kernel
theorem dX8_block_1 : decode cX8_block 1 = .ok (.iconst 0, 1) := by decide +kernel
theorem dX8_block_2 : decode cX8_block 2 = .ok (.iconst 2, 1) := by decide +kernel
theorem dX8_block_3 : decode cX8_block 3 = .ok (.invokestatic 42, 3) := by decide +kernel
theorem dX8_block_6 : decode cX8_block 6 = .ok (.ifCond .ne 6, 3) := by decide +kernel
theorem dX8_block_9 : decode cX8_block 9 = .ok (.bipush (-2), 2) := by decide +kernel
theorem dX8_block_11 : decode cX8_block 11 = .ok (.ireturn, 1) := by decide +kernel
theorem dX8_block_12 : decode cX8_block 12 = .ok (.iload_n 1, 1) := by decide +kernel
theorem dX8_block_13 : decode cX8_block 13 = .ok (.iconst 0, 1) := by decide +kernel
theorem dX8_block_14 : decode cX8_block 14 = .ok (.bipush 95, 2) := by decide +kernel
theorem dX8_block_16 : decode cX8_block 16 = .ok (.invokestatic 42, 3) := by decide +kernel
theorem dX8_block_19 : decode cX8_block 19 = .ok (.ifCond .ne 6, 3) := by decide +kernel
theorem dX8_block_22 : decode cX8_block 22 = .ok (.bipush (-12), 2) := by decide +kernel
theorem dX8_block_24 : decode cX8_block 24 = .ok (.ireturn, 1) := by decide +kernel
theorem dX8_block_25 : decode cX8_block 25 = .ok (.aload_n 0, 1) := by decide +kernel
theorem dX8_block_26 : decode cX8_block 26 = .ok (.getfield 7, 3) := by decide +kernel
theorem dX8_block_29 : decode cX8_block 29 = .ok (.sipush 362, 3) := by decide +kernel
theorem dX8_block_32 : decode cX8_block 32 = .ok (.iload_n 1, 1) := by decide +kernel
theorem dX8_block_33 : decode cX8_block 33 = .ok (.iadd, 1) := by decide +kernel
theorem dX8_block_34 : decode cX8_block 34 = .ok (.iaload, 1) := by decide +kernel
theorem dX8_block_35 : decode cX8_block 35 = .ok (.ifCond .ne 6, 3) := by decide +kernel
theorem dX8_block_38 : decode cX8_block 38 = .ok (.bipush (-11), 2) := by decide +kernel
theorem dX8_block_40 : decode cX8_block 40 = .ok (.ireturn, 1) := by decide +kernel
theorem dX8_block_41 : decode cX8_block 41 = .ok (.aload_n 0, 1) := by decide +kernel
theorem dX8_block_42 : decode cX8_block 42 = .ok (.invokevirtual 67, 3) := by decide +kernel
theorem dX8_block_45 : decode cX8_block 45 = .ok (.iload_n 2, 1) := by decide +kernel
theorem dX8_block_46 : decode cX8_block 46 = .ok (.ifCond .ne 16, 3) := by decide +kernel
theorem dX8_block_49 : decode cX8_block 49 = .ok (.aload_n 0, 1) := by decide +kernel
theorem dX8_block_50 : decode cX8_block 50 = .ok (.getfield 7, 3) := by decide +kernel
theorem dX8_block_53 : decode cX8_block 53 = .ok (.sipush 362, 3) := by decide +kernel
theorem dX8_block_56 : decode cX8_block 56 = .ok (.iload_n 1, 1) := by decide +kernel
theorem dX8_block_57 : decode cX8_block 57 = .ok (.iadd, 1) := by decide +kernel
theorem dX8_block_58 : decode cX8_block 58 = .ok (.iaload, 1) := by decide +kernel
theorem dX8_block_59 : decode cX8_block 59 = .ok (.goto 27, 3) := by decide +kernel
theorem dX8_block_62 : decode cX8_block 62 = .ok (.iload_n 2, 1) := by decide +kernel
theorem dX8_block_63 : decode cX8_block 63 = .ok (.iconst 1, 1) := by decide +kernel
theorem dX8_block_64 : decode cX8_block 64 = .ok (.if_icmp .ne 16, 3) := by decide +kernel
theorem dX8_block_67 : decode cX8_block 67 = .ok (.aload_n 0, 1) := by decide +kernel
theorem dX8_block_68 : decode cX8_block 68 = .ok (.getfield 7, 3) := by decide +kernel
theorem dX8_block_71 : decode cX8_block 71 = .ok (.sipush 458, 3) := by decide +kernel
theorem dX8_block_74 : decode cX8_block 74 = .ok (.iload_n 1, 1) := by decide +kernel
theorem dX8_block_75 : decode cX8_block 75 = .ok (.iadd, 1) := by decide +kernel
theorem dX8_block_76 : decode cX8_block 76 = .ok (.iaload, 1) := by decide +kernel
theorem dX8_block_77 : decode cX8_block 77 = .ok (.goto 9, 3) := by decide +kernel
theorem dX8_block_80 : decode cX8_block 80 = .ok (.aload_n 0, 1) := by decide +kernel
theorem dX8_block_81 : decode cX8_block 81 = .ok (.getfield 19, 3) := by decide +kernel
theorem dX8_block_84 : decode cX8_block 84 = .ok (.iload_n 1, 1) := by decide +kernel
theorem dX8_block_85 : decode cX8_block 85 = .ok (.iaload, 1) := by decide +kernel
theorem dX8_block_86 : decode cX8_block 86 = .ok (.ireturn, 1) := by decide +kernel
set_option maxRecDepth 20000 in
theorem ggX8_taken_X8_in : GoodIn wsX8_taken wsX8_in := goodIn_r _ [5] (by decide +kernel) (by decide +kernel)
set_option maxRecDepth 20000 in
theorem gX8_taken_X8_in : GoodIn wsX8_taken (va_wsS RX8 42 yX8_in wsX8_in) := goodIn_app (goodIn_of _ (by decide +kernel)) ggX8_taken_X8_in
set_option maxRecDepth 20000 in
theorem ggX8_taken_X8_asked : GoodIn wsX8_taken wsX8_asked := goodIn_r _ [9, 1, 10, 11, 12, 4, 13, 2, 3, 5, 14, 15, 16, 17, 18, 19, 20, 21, 22, 23, 24, 25, 26, 27, 28, 29, 30, 31, 32, 33] (by decide +kernel) (by decide +kernel)
set_option maxRecDepth 20000 in
theorem gX8_taken_X8_asked : GoodIn wsX8_taken (wsV RX8 92 RX8 yX8_asked wsX8_asked) := goodIn_app (goodIn_of _ (by decide +kernel)) ggX8_taken_X8_asked
theorem dX8_taken_0 : decode cX8_taken 0 = .ok (.iload_n 2, 1) := by decide +kernel
theorem dX8_taken_1 : decode cX8_taken 1 = .ok (.iconst 0, 1) := by decide +kernel
theorem dX8_taken_2 : decode cX8_taken 2 = .ok (.iconst 4, 1) := by decide +kernel
theorem dX8_taken_3 : decode cX8_taken 3 = .ok (.invokestatic 42, 3) := by decide +kernel
theorem dX8_taken_6 : decode cX8_taken 6 = .ok (.ifCond .ne 6, 3) := by decide +kernel
theorem dX8_taken_9 : decode cX8_taken 9 = .ok (.bipush (-2), 2) := by decide +kernel
theorem dX8_taken_11 : decode cX8_taken 11 = .ok (.ireturn, 1) := by decide +kernel
theorem dX8_taken_12 : decode cX8_taken 12 = .ok (.aload_n 0, 1) := by decide +kernel
theorem dX8_taken_13 : decode cX8_taken 13 = .ok (.iload_n 1, 1) := by decide +kernel
theorem dX8_taken_14 : decode cX8_taken 14 = .ok (.iload_n 2, 1) := by decide +kernel
theorem dX8_taken_15 : decode cX8_taken 15 = .ok (.invokevirtual 92, 3) := by decide +kernel
theorem dX8_taken_18 : decode cX8_taken 18 = .ok (.istore_n 3, 1) := by decide +kernel
theorem dX8_taken_19 : decode cX8_taken 19 = .ok (.iload_n 3, 1) := by decide +kernel
theorem dX8_taken_20 : decode cX8_taken 20 = .ok (.ifCond .eq 7, 3) := by decide +kernel
theorem dX8_taken_23 : decode cX8_taken 23 = .ok (.iload_n 3, 1) := by decide +kernel
theorem dX8_taken_24 : decode cX8_taken 24 = .ok (.goto 12, 3) := by decide +kernel
theorem dX8_taken_27 : decode cX8_taken 27 = .ok (.aload_n 0, 1) := by decide +kernel
theorem dX8_taken_28 : decode cX8_taken 28 = .ok (.getfield 7, 3) := by decide +kernel
theorem dX8_taken_31 : decode cX8_taken 31 = .ok (.bipush 22, 2) := by decide +kernel
theorem dX8_taken_33 : decode cX8_taken 33 = .ok (.iload_n 1, 1) := by decide +kernel
theorem dX8_taken_34 : decode cX8_taken 34 = .ok (.iadd, 1) := by decide +kernel
theorem dX8_taken_35 : decode cX8_taken 35 = .ok (.iaload, 1) := by decide +kernel
theorem dX8_taken_36 : decode cX8_taken 36 = .ok (.ireturn, 1) := by decide +kernel
set_option maxRecDepth 20000 in
theorem ggX8_isDead_X8_isHeld : GoodIn wsX8_isDead wsX8_isHeld := goodIn_r _ [6, 1, 7, 8, 9, 5, 10, 11, 12, 13, 14, 15, 16, 17, 18, 19, 20, 21, 22, 23, 24, 25, 26, 27, 28, 29, 30, 31, 32, 33, 34, 35, 36, 37, 38, 39, 40, 41] (by decide +kernel) (by decide +kernel)
set_option maxRecDepth 20000 in
theorem gX8_isDead_X8_isHeld : GoodIn wsX8_isDead (wsV RX8 125 RX8 yX8_isHeld wsX8_isHeld) := goodIn_app (goodIn_of _ (by decide +kernel)) ggX8_isDead_X8_isHeld
theorem dX8_isDead_0 : decode cX8_isDead 0 = .ok (.aload_n 0, 1) := by decide +kernel
theorem dX8_isDead_1 : decode cX8_isDead 1 = .ok (.getfield 7, 3) := by decide +kernel
theorem dX8_isDead_4 : decode cX8_isDead 4 = .ok (.bipush 42, 2) := by decide +kernel
theorem dX8_isDead_6 : decode cX8_isDead 6 = .ok (.iload_n 1, 1) := by decide +kernel
theorem dX8_isDead_7 : decode cX8_isDead 7 = .ok (.iadd, 1) := by decide +kernel
theorem dX8_isDead_8 : decode cX8_isDead 8 = .ok (.iaload, 1) := by decide +kernel
theorem dX8_isDead_9 : decode cX8_isDead 9 = .ok (.iconst (-1), 1) := by decide +kernel
theorem dX8_isDead_10 : decode cX8_isDead 10 = .ok (.if_icmp .eq 33, 3) := by decide +kernel
theorem dX8_isDead_13 : decode cX8_isDead 13 = .ok (.aload_n 0, 1) := by decide +kernel
theorem dX8_isDead_14 : decode cX8_isDead 14 = .ok (.aload_n 0, 1) := by decide +kernel
theorem dX8_isDead_15 : decode cX8_isDead 15 = .ok (.getfield 7, 3) := by decide +kernel
theorem dX8_isDead_18 : decode cX8_isDead 18 = .ok (.bipush 42, 2) := by decide +kernel
theorem dX8_isDead_20 : decode cX8_isDead 20 = .ok (.iload_n 1, 1) := by decide +kernel
theorem dX8_isDead_21 : decode cX8_isDead 21 = .ok (.iadd, 1) := by decide +kernel
theorem dX8_isDead_22 : decode cX8_isDead 22 = .ok (.iaload, 1) := by decide +kernel
theorem dX8_isDead_23 : decode cX8_isDead 23 = .ok (.iload_n 2, 1) := by decide +kernel
theorem dX8_isDead_24 : decode cX8_isDead 24 = .ok (.invokevirtual 125, 3) := by decide +kernel
theorem dX8_isDead_27 : decode cX8_isDead 27 = .ok (.ifCond .eq 16, 3) := by decide +kernel
theorem dX8_isDead_30 : decode cX8_isDead 30 = .ok (.aload_n 0, 1) := by decide +kernel
theorem dX8_isDead_31 : decode cX8_isDead 31 = .ok (.iload_n 1, 1) := by decide +kernel
theorem dX8_isDead_32 : decode cX8_isDead 32 = .ok (.iload_n 2, 1) := by decide +kernel
theorem dX8_isDead_33 : decode cX8_isDead 33 = .ok (.invokevirtual 125, 3) := by decide +kernel
theorem dX8_isDead_36 : decode cX8_isDead 36 = .ok (.ifCond .ne 7, 3) := by decide +kernel
theorem dX8_isDead_39 : decode cX8_isDead 39 = .ok (.iconst 1, 1) := by decide +kernel
theorem dX8_isDead_40 : decode cX8_isDead 40 = .ok (.goto 4, 3) := by decide +kernel
theorem dX8_isDead_43 : decode cX8_isDead 43 = .ok (.iconst 0, 1) := by decide +kernel
theorem dX8_isDead_44 : decode cX8_isDead 44 = .ok (.ireturn, 1) := by decide +kernel
set_option maxRecDepth 20000 in
theorem ggX8_dead_X8_in : GoodIn wsX8_dead wsX8_in := goodIn_r _ [5] (by decide +kernel) (by decide +kernel)
set_option maxRecDepth 20000 in
theorem gX8_dead_X8_in : GoodIn wsX8_dead (va_wsS RX8 42 yX8_in wsX8_in) := goodIn_app (goodIn_of _ (by decide +kernel)) ggX8_dead_X8_in
set_option maxRecDepth 20000 in
theorem ggX8_dead_X8_askedSlots : GoodIn wsX8_dead wsX8_askedSlots := goodIn_r _ [9, 10, 11, 12, 4, 13, 2, 3, 5, 14, 15, 16, 17, 1, 18, 19, 20, 21, 22, 23, 24, 25, 26, 27, 28, 29, 30, 31, 32, 41, 42, 43, 44, 45, 46, 47, 48, 49, 50, 51, 52, 53] (by decide +kernel) (by decide +kernel)
set_option maxRecDepth 20000 in
theorem gX8_dead_X8_askedSlots : GoodIn wsX8_dead (wsV RX8 122 RX8 yX8_askedSlots wsX8_askedSlots) := goodIn_app (goodIn_of _ (by decide +kernel)) ggX8_dead_X8_askedSlots
set_option maxRecDepth 20000 in
theorem ggX8_dead_X8_isDead : GoodIn wsX8_dead wsX8_isDead := goodIn_r _ [36, 1, 37, 38, 39, 4, 40, 18, 19, 20, 21, 22, 23, 24, 25, 14, 15, 16, 17, 2, 3, 5, 26, 27, 28, 29, 30, 31, 32, 41, 42, 43, 44, 45, 46, 47, 48, 49, 50, 51, 52, 53] (by decide +kernel) (by decide +kernel)
set_option maxRecDepth 20000 in
theorem gX8_dead_X8_isDead : GoodIn wsX8_dead (wsV RX8 128 RX8 yX8_isDead wsX8_isDead) := goodIn_app (goodIn_of _ (by decide +kernel)) ggX8_dead_X8_isDead
theorem dX8_dead_0 : decode cX8_dead 0 = .ok (.iload_n 2, 1) := by decide +kernel
theorem dX8_dead_1 : decode cX8_dead 1 = .ok (.iconst 0, 1) := by decide +kernel
theorem dX8_dead_2 : decode cX8_dead 2 = .ok (.iconst 2, 1) := by decide +kernel
theorem dX8_dead_3 : decode cX8_dead 3 = .ok (.invokestatic 42, 3) := by decide +kernel
theorem dX8_dead_6 : decode cX8_dead 6 = .ok (.ifCond .ne 6, 3) := by decide +kernel
theorem dX8_dead_9 : decode cX8_dead 9 = .ok (.bipush (-2), 2) := by decide +kernel
theorem dX8_dead_11 : decode cX8_dead 11 = .ok (.ireturn, 1) := by decide +kernel
theorem dX8_dead_12 : decode cX8_dead 12 = .ok (.aload_n 0, 1) := by decide +kernel
theorem dX8_dead_13 : decode cX8_dead 13 = .ok (.iload_n 1, 1) := by decide +kernel
theorem dX8_dead_14 : decode cX8_dead 14 = .ok (.invokevirtual 122, 3) := by decide +kernel
theorem dX8_dead_17 : decode cX8_dead 17 = .ok (.istore_n 3, 1) := by decide +kernel
theorem dX8_dead_18 : decode cX8_dead 18 = .ok (.iload_n 3, 1) := by decide +kernel
theorem dX8_dead_19 : decode cX8_dead 19 = .ok (.ifCond .eq 5, 3) := by decide +kernel
theorem dX8_dead_22 : decode cX8_dead 22 = .ok (.iload_n 3, 1) := by decide +kernel
theorem dX8_dead_23 : decode cX8_dead 23 = .ok (.ireturn, 1) := by decide +kernel
theorem dX8_dead_24 : decode cX8_dead 24 = .ok (.iconst 0, 1) := by decide +kernel
theorem dX8_dead_25 : decode cX8_dead 25 = .ok (.istore 4, 2) := by decide +kernel
theorem dX8_dead_27 : decode cX8_dead 27 = .ok (.iconst (-1), 1) := by decide +kernel
theorem dX8_dead_28 : decode cX8_dead 28 = .ok (.istore 5, 2) := by decide +kernel
theorem dX8_dead_30 : decode cX8_dead 30 = .ok (.iconst (-1), 1) := by decide +kernel
theorem dX8_dead_31 : decode cX8_dead 31 = .ok (.istore 6, 2) := by decide +kernel
theorem dX8_dead_33 : decode cX8_dead 33 = .ok (.iconst 0, 1) := by decide +kernel
theorem dX8_dead_34 : decode cX8_dead 34 = .ok (.istore 7, 2) := by decide +kernel
theorem dX8_dead_36 : decode cX8_dead 36 = .ok (.iload 7, 2) := by decide +kernel
theorem dX8_dead_38 : decode cX8_dead 38 = .ok (.bipush 96, 2) := by decide +kernel
theorem dX8_dead_40 : decode cX8_dead 40 = .ok (.if_icmp .ge 102, 3) := by decide +kernel
theorem dX8_dead_43 : decode cX8_dead 43 = .ok (.aload_n 0, 1) := by decide +kernel
theorem dX8_dead_44 : decode cX8_dead 44 = .ok (.iload_n 1, 1) := by decide +kernel
theorem dX8_dead_45 : decode cX8_dead 45 = .ok (.iload 7, 2) := by decide +kernel
theorem dX8_dead_47 : decode cX8_dead 47 = .ok (.invokevirtual 128, 3) := by decide +kernel
theorem dX8_dead_50 : decode cX8_dead 50 = .ok (.ifCond .eq 86, 3) := by decide +kernel
theorem dX8_dead_53 : decode cX8_dead 53 = .ok (.iinc 4 1, 3) := by decide +kernel
theorem dX8_dead_56 : decode cX8_dead 56 = .ok (.iload 5, 2) := by decide +kernel
theorem dX8_dead_58 : decode cX8_dead 58 = .ok (.iconst (-1), 1) := by decide +kernel
theorem dX8_dead_59 : decode cX8_dead 59 = .ok (.if_icmp .eq 28, 3) := by decide +kernel
theorem dX8_dead_62 : decode cX8_dead 62 = .ok (.aload_n 0, 1) := by decide +kernel
theorem dX8_dead_63 : decode cX8_dead 63 = .ok (.getfield 7, 3) := by decide +kernel
theorem dX8_dead_66 : decode cX8_dead 66 = .ok (.sipush 458, 3) := by decide +kernel
theorem dX8_dead_69 : decode cX8_dead 69 = .ok (.iload 7, 2) := by decide +kernel
theorem dX8_dead_71 : decode cX8_dead 71 = .ok (.iadd, 1) := by decide +kernel
theorem dX8_dead_72 : decode cX8_dead 72 = .ok (.iaload, 1) := by decide +kernel
theorem dX8_dead_73 : decode cX8_dead 73 = .ok (.aload_n 0, 1) := by decide +kernel
theorem dX8_dead_74 : decode cX8_dead 74 = .ok (.getfield 7, 3) := by decide +kernel
theorem dX8_dead_77 : decode cX8_dead 77 = .ok (.sipush 458, 3) := by decide +kernel
theorem dX8_dead_80 : decode cX8_dead 80 = .ok (.iload 5, 2) := by decide +kernel
theorem dX8_dead_82 : decode cX8_dead 82 = .ok (.iadd, 1) := by decide +kernel
theorem dX8_dead_83 : decode cX8_dead 83 = .ok (.iaload, 1) := by decide +kernel
theorem dX8_dead_84 : decode cX8_dead 84 = .ok (.if_icmp .le 8, 3) := by decide +kernel
theorem dX8_dead_87 : decode cX8_dead 87 = .ok (.iload 7, 2) := by decide +kernel
theorem dX8_dead_89 : decode cX8_dead 89 = .ok (.goto 5, 3) := by decide +kernel
theorem dX8_dead_92 : decode cX8_dead 92 = .ok (.iload 5, 2) := by decide +kernel
theorem dX8_dead_94 : decode cX8_dead 94 = .ok (.istore 5, 2) := by decide +kernel
theorem dX8_dead_96 : decode cX8_dead 96 = .ok (.iload 6, 2) := by decide +kernel
theorem dX8_dead_98 : decode cX8_dead 98 = .ok (.iconst (-1), 1) := by decide +kernel
theorem dX8_dead_99 : decode cX8_dead 99 = .ok (.if_icmp .eq 28, 3) := by decide +kernel
theorem dX8_dead_102 : decode cX8_dead 102 = .ok (.aload_n 0, 1) := by decide +kernel
theorem dX8_dead_103 : decode cX8_dead 103 = .ok (.getfield 7, 3) := by decide +kernel
theorem dX8_dead_106 : decode cX8_dead 106 = .ok (.sipush 458, 3) := by decide +kernel
theorem dX8_dead_109 : decode cX8_dead 109 = .ok (.iload 7, 2) := by decide +kernel
theorem dX8_dead_111 : decode cX8_dead 111 = .ok (.iadd, 1) := by decide +kernel
theorem dX8_dead_112 : decode cX8_dead 112 = .ok (.iaload, 1) := by decide +kernel
theorem dX8_dead_113 : decode cX8_dead 113 = .ok (.aload_n 0, 1) := by decide +kernel
theorem dX8_dead_114 : decode cX8_dead 114 = .ok (.getfield 7, 3) := by decide +kernel
theorem dX8_dead_117 : decode cX8_dead 117 = .ok (.sipush 458, 3) := by decide +kernel
theorem dX8_dead_120 : decode cX8_dead 120 = .ok (.iload 6, 2) := by decide +kernel
theorem dX8_dead_122 : decode cX8_dead 122 = .ok (.iadd, 1) := by decide +kernel
theorem dX8_dead_123 : decode cX8_dead 123 = .ok (.iaload, 1) := by decide +kernel
theorem dX8_dead_124 : decode cX8_dead 124 = .ok (.if_icmp .gt 8, 3) := by decide +kernel
theorem dX8_dead_127 : decode cX8_dead 127 = .ok (.iload 7, 2) := by decide +kernel
theorem dX8_dead_129 : decode cX8_dead 129 = .ok (.goto 5, 3) := by decide +kernel
theorem dX8_dead_132 : decode cX8_dead 132 = .ok (.iload 6, 2) := by decide +kernel
theorem dX8_dead_134 : decode cX8_dead 134 = .ok (.istore 6, 2) := by decide +kernel
theorem dX8_dead_136 : decode cX8_dead 136 = .ok (.iinc 7 1, 3) := by decide +kernel
theorem dX8_dead_139 : decode cX8_dead 139 = .ok (.goto (-103), 3) := by decide +kernel
theorem dX8_dead_142 : decode cX8_dead 142 = .ok (.iload_n 2, 1) := by decide +kernel
theorem dX8_dead_143 : decode cX8_dead 143 = .ok (.ifCond .ne 8, 3) := by decide +kernel
theorem dX8_dead_146 : decode cX8_dead 146 = .ok (.iload 4, 2) := by decide +kernel
theorem dX8_dead_148 : decode cX8_dead 148 = .ok (.goto 15, 3) := by decide +kernel
theorem dX8_dead_151 : decode cX8_dead 151 = .ok (.iload_n 2, 1) := by decide +kernel
theorem dX8_dead_152 : decode cX8_dead 152 = .ok (.iconst 1, 1) := by decide +kernel
theorem dX8_dead_153 : decode cX8_dead 153 = .ok (.if_icmp .ne 8, 3) := by decide +kernel
theorem dX8_dead_156 : decode cX8_dead 156 = .ok (.iload 5, 2) := by decide +kernel
theorem dX8_dead_158 : decode cX8_dead 158 = .ok (.goto 5, 3) := by decide +kernel
theorem dX8_dead_161 : decode cX8_dead 161 = .ok (.iload 6, 2) := by decide +kernel
theorem dX8_dead_163 : decode cX8_dead 163 = .ok (.ireturn, 1) := by decide +kernel
theorem dX8_chained_0 : decode cX8_chained 0 = .ok (.aload_n 0, 1) := by decide +kernel
theorem dX8_chained_1 : decode cX8_chained 1 = .ok (.getfield 7, 3) := by decide +kernel
theorem dX8_chained_4 : decode cX8_chained 4 = .ok (.bipush 42, 2) := by decide +kernel
theorem dX8_chained_6 : decode cX8_chained 6 = .ok (.iload_n 1, 1) := by decide +kernel
theorem dX8_chained_7 : decode cX8_chained 7 = .ok (.iadd, 1) := by decide +kernel
theorem dX8_chained_8 : decode cX8_chained 8 = .ok (.iaload, 1) := by decide +kernel
theorem dX8_chained_9 : decode cX8_chained 9 = .ok (.istore_n 3, 1) := by decide +kernel
theorem dX8_chained_10 : decode cX8_chained 10 = .ok (.iconst 0, 1) := by decide +kernel
theorem dX8_chained_11 : decode cX8_chained 11 = .ok (.istore 4, 2) := by decide +kernel
theorem dX8_chained_13 : decode cX8_chained 13 = .ok (.iload 4, 2) := by decide +kernel
theorem dX8_chained_15 : decode cX8_chained 15 = .ok (.iload_n 2, 1) := by decide +kernel
theorem dX8_chained_16 : decode cX8_chained 16 = .ok (.if_icmp .ge 24, 3) := by decide +kernel
theorem dX8_chained_19 : decode cX8_chained 19 = .ok (.iload_n 3, 1) := by decide +kernel
theorem dX8_chained_20 : decode cX8_chained 20 = .ok (.iconst (-1), 1) := by decide +kernel
theorem dX8_chained_21 : decode cX8_chained 21 = .ok (.if_icmp .eq 19, 3) := by decide +kernel
theorem dX8_chained_24 : decode cX8_chained 24 = .ok (.aload_n 0, 1) := by decide +kernel
theorem dX8_chained_25 : decode cX8_chained 25 = .ok (.getfield 7, 3) := by decide +kernel
theorem dX8_chained_28 : decode cX8_chained 28 = .ok (.bipush 42, 2) := by decide +kernel
theorem dX8_chained_30 : decode cX8_chained 30 = .ok (.iload_n 3, 1) := by decide +kernel
theorem dX8_chained_31 : decode cX8_chained 31 = .ok (.iadd, 1) := by decide +kernel
theorem dX8_chained_32 : decode cX8_chained 32 = .ok (.iaload, 1) := by decide +kernel
theorem dX8_chained_33 : decode cX8_chained 33 = .ok (.istore_n 3, 1) := by decide +kernel
theorem dX8_chained_34 : decode cX8_chained 34 = .ok (.iinc 4 1, 3) := by decide +kernel
theorem dX8_chained_37 : decode cX8_chained 37 = .ok (.goto (-24), 3) := by decide +kernel
theorem dX8_chained_40 : decode cX8_chained 40 = .ok (.iload_n 3, 1) := by decide +kernel
theorem dX8_chained_41 : decode cX8_chained 41 = .ok (.ireturn, 1) := by decide +kernel
set_option maxRecDepth 20000 in
theorem ggX8_deadList_X8_hasSlots : GoodIn wsX8_deadList wsX8_hasSlots := goodIn_r _ [7, 8, 9, 10, 6, 11, 2, 12, 13, 14, 15, 16, 17, 18, 19, 20, 21, 22, 23, 24, 25, 38, 39, 40, 41, 42, 43, 44, 45, 46, 47, 48, 49, 50] (by decide +kernel) (by decide +kernel)
set_option maxRecDepth 20000 in
theorem gX8_deadList_X8_hasSlots : GoodIn wsX8_deadList (wsV RX8 64 RX8 yX8_hasSlots wsX8_hasSlots) := goodIn_app (goodIn_of _ (by decide +kernel)) ggX8_deadList_X8_hasSlots
set_option maxRecDepth 20000 in
theorem ggX8_deadList_X8_in : GoodIn wsX8_deadList wsX8_in := goodIn_r _ [18] (by decide +kernel) (by decide +kernel)
set_option maxRecDepth 20000 in
theorem gX8_deadList_X8_in : GoodIn wsX8_deadList (va_wsS RX8 42 yX8_in wsX8_in) := goodIn_app (goodIn_of _ (by decide +kernel)) ggX8_deadList_X8_in
set_option maxRecDepth 20000 in
theorem ggX8_deadList_X8_chained : GoodIn wsX8_deadList wsX8_chained := goodIn_r _ [29, 2, 38, 39, 40, 41, 42, 43, 44, 45, 46, 47, 48, 49, 50] (by decide +kernel) (by decide +kernel)
set_option maxRecDepth 20000 in
theorem gX8_deadList_X8_chained : GoodIn wsX8_deadList (wsV RX8 131 RX8 yX8_chained wsX8_chained) := goodIn_app (goodIn_of _ (by decide +kernel)) ggX8_deadList_X8_chained
set_option maxRecDepth 20000 in
theorem ggX8_deadList_X8_isDead : GoodIn wsX8_deadList wsX8_isDead := goodIn_r _ [33, 2, 34, 35, 36, 6, 37, 3, 4, 5, 7, 8, 9, 10, 11, 12, 13, 14, 15, 16, 17, 18, 19, 20, 21, 22, 23, 24, 25, 38, 39, 40, 41, 42, 43, 44, 45, 46, 47, 48, 49, 50] (by decide +kernel) (by decide +kernel)
set_option maxRecDepth 20000 in
theorem gX8_deadList_X8_isDead : GoodIn wsX8_deadList (wsV RX8 128 RX8 yX8_isDead wsX8_isDead) := goodIn_app (goodIn_of _ (by decide +kernel)) ggX8_deadList_X8_isDead
theorem dX8_deadList_0 : decode cX8_deadList 0 = .ok (.aload_n 0, 1) := by decide +kernel
theorem dX8_deadList_1 : decode cX8_deadList 1 = .ok (.iload_n 1, 1) := by decide +kernel
theorem dX8_deadList_2 : decode cX8_deadList 2 = .ok (.invokevirtual 64, 3) := by decide +kernel
theorem dX8_deadList_5 : decode cX8_deadList 5 = .ok (.ifCond .eq 23, 3) := by decide +kernel
theorem dX8_deadList_8 : decode cX8_deadList 8 = .ok (.iload_n 2, 1) := by decide +kernel
theorem dX8_deadList_9 : decode cX8_deadList 9 = .ok (.iconst 0, 1) := by decide +kernel
theorem dX8_deadList_10 : decode cX8_deadList 10 = .ok (.bipush 19, 2) := by decide +kernel
theorem dX8_deadList_12 : decode cX8_deadList 12 = .ok (.invokestatic 42, 3) := by decide +kernel
theorem dX8_deadList_15 : decode cX8_deadList 15 = .ok (.ifCond .eq 13, 3) := by decide +kernel
theorem dX8_deadList_18 : decode cX8_deadList 18 = .ok (.aload_n 0, 1) := by decide +kernel
theorem dX8_deadList_19 : decode cX8_deadList 19 = .ok (.iload_n 1, 1) := by decide +kernel
theorem dX8_deadList_20 : decode cX8_deadList 20 = .ok (.iload_n 2, 1) := by decide +kernel
theorem dX8_deadList_21 : decode cX8_deadList 21 = .ok (.invokevirtual 131, 3) := by decide +kernel
theorem dX8_deadList_24 : decode cX8_deadList 24 = .ok (.iconst (-1), 1) := by decide +kernel
theorem dX8_deadList_25 : decode cX8_deadList 25 = .ok (.if_icmp .ne 7, 3) := by decide +kernel
theorem dX8_deadList_28 : decode cX8_deadList 28 = .ok (.ldc2_w 134, 3) := by decide +kernel
theorem dX8_deadList_31 : decode cX8_deadList 31 = .ok (.lreturn, 1) := by decide +kernel
theorem dX8_deadList_32 : decode cX8_deadList 32 = .ok (.aload_n 0, 1) := by decide +kernel
theorem dX8_deadList_33 : decode cX8_deadList 33 = .ok (.iload_n 1, 1) := by decide +kernel
theorem dX8_deadList_34 : decode cX8_deadList 34 = .ok (.iload_n 2, 1) := by decide +kernel
theorem dX8_deadList_35 : decode cX8_deadList 35 = .ok (.invokevirtual 131, 3) := by decide +kernel
theorem dX8_deadList_38 : decode cX8_deadList 38 = .ok (.istore_n 3, 1) := by decide +kernel
theorem dX8_deadList_39 : decode cX8_deadList 39 = .ok (.aload_n 0, 1) := by decide +kernel
theorem dX8_deadList_40 : decode cX8_deadList 40 = .ok (.iload_n 1, 1) := by decide +kernel
theorem dX8_deadList_41 : decode cX8_deadList 41 = .ok (.iload_n 2, 1) := by decide +kernel
theorem dX8_deadList_42 : decode cX8_deadList 42 = .ok (.iconst 1, 1) := by decide +kernel
theorem dX8_deadList_43 : decode cX8_deadList 43 = .ok (.iadd, 1) := by decide +kernel
theorem dX8_deadList_44 : decode cX8_deadList 44 = .ok (.invokevirtual 131, 3) := by decide +kernel
theorem dX8_deadList_47 : decode cX8_deadList 47 = .ok (.istore 4, 2) := by decide +kernel
theorem dX8_deadList_49 : decode cX8_deadList 49 = .ok (.lconst 0, 1) := by decide +kernel
theorem dX8_deadList_50 : decode cX8_deadList 50 = .ok (.lstore 5, 2) := by decide +kernel
theorem dX8_deadList_52 : decode cX8_deadList 52 = .ok (.iconst 0, 1) := by decide +kernel
theorem dX8_deadList_53 : decode cX8_deadList 53 = .ok (.istore 7, 2) := by decide +kernel
theorem dX8_deadList_55 : decode cX8_deadList 55 = .ok (.iload 7, 2) := by decide +kernel
theorem dX8_deadList_57 : decode cX8_deadList 57 = .ok (.bipush 96, 2) := by decide +kernel
theorem dX8_deadList_59 : decode cX8_deadList 59 = .ok (.if_icmp .ge 105, 3) := by decide +kernel
theorem dX8_deadList_62 : decode cX8_deadList 62 = .ok (.aload_n 0, 1) := by decide +kernel
theorem dX8_deadList_63 : decode cX8_deadList 63 = .ok (.iload_n 1, 1) := by decide +kernel
theorem dX8_deadList_64 : decode cX8_deadList 64 = .ok (.iload 7, 2) := by decide +kernel
theorem dX8_deadList_66 : decode cX8_deadList 66 = .ok (.invokevirtual 128, 3) := by decide +kernel
theorem dX8_deadList_69 : decode cX8_deadList 69 = .ok (.ifCond .eq 60, 3) := by decide +kernel
theorem dX8_deadList_72 : decode cX8_deadList 72 = .ok (.aload_n 0, 1) := by decide +kernel
theorem dX8_deadList_73 : decode cX8_deadList 73 = .ok (.getfield 7, 3) := by decide +kernel
theorem dX8_deadList_76 : decode cX8_deadList 76 = .ok (.sipush 458, 3) := by decide +kernel
theorem dX8_deadList_79 : decode cX8_deadList 79 = .ok (.iload 7, 2) := by decide +kernel
theorem dX8_deadList_81 : decode cX8_deadList 81 = .ok (.iadd, 1) := by decide +kernel
theorem dX8_deadList_82 : decode cX8_deadList 82 = .ok (.iaload, 1) := by decide +kernel
theorem dX8_deadList_83 : decode cX8_deadList 83 = .ok (.aload_n 0, 1) := by decide +kernel
theorem dX8_deadList_84 : decode cX8_deadList 84 = .ok (.getfield 7, 3) := by decide +kernel
theorem dX8_deadList_87 : decode cX8_deadList 87 = .ok (.bipush 22, 2) := by decide +kernel
theorem dX8_deadList_89 : decode cX8_deadList 89 = .ok (.iload_n 3, 1) := by decide +kernel
theorem dX8_deadList_90 : decode cX8_deadList 90 = .ok (.iadd, 1) := by decide +kernel
theorem dX8_deadList_91 : decode cX8_deadList 91 = .ok (.iaload, 1) := by decide +kernel
theorem dX8_deadList_92 : decode cX8_deadList 92 = .ok (.if_icmp .gt 37, 3) := by decide +kernel
theorem dX8_deadList_95 : decode cX8_deadList 95 = .ok (.iload 4, 2) := by decide +kernel
theorem dX8_deadList_97 : decode cX8_deadList 97 = .ok (.iconst (-1), 1) := by decide +kernel
theorem dX8_deadList_98 : decode cX8_deadList 98 = .ok (.if_icmp .eq 27, 3) := by decide +kernel
theorem dX8_deadList_101 : decode cX8_deadList 101 = .ok (.aload_n 0, 1) := by decide +kernel
theorem dX8_deadList_102 : decode cX8_deadList 102 = .ok (.getfield 7, 3) := by decide +kernel
theorem dX8_deadList_105 : decode cX8_deadList 105 = .ok (.sipush 458, 3) := by decide +kernel
theorem dX8_deadList_108 : decode cX8_deadList 108 = .ok (.iload 7, 2) := by decide +kernel
theorem dX8_deadList_110 : decode cX8_deadList 110 = .ok (.iadd, 1) := by decide +kernel
theorem dX8_deadList_111 : decode cX8_deadList 111 = .ok (.iaload, 1) := by decide +kernel
theorem dX8_deadList_112 : decode cX8_deadList 112 = .ok (.aload_n 0, 1) := by decide +kernel
theorem dX8_deadList_113 : decode cX8_deadList 113 = .ok (.getfield 7, 3) := by decide +kernel
theorem dX8_deadList_116 : decode cX8_deadList 116 = .ok (.bipush 22, 2) := by decide +kernel
theorem dX8_deadList_118 : decode cX8_deadList 118 = .ok (.iload 4, 2) := by decide +kernel
theorem dX8_deadList_120 : decode cX8_deadList 120 = .ok (.iadd, 1) := by decide +kernel
theorem dX8_deadList_121 : decode cX8_deadList 121 = .ok (.iaload, 1) := by decide +kernel
theorem dX8_deadList_122 : decode cX8_deadList 122 = .ok (.if_icmp .le 7, 3) := by decide +kernel
theorem dX8_deadList_125 : decode cX8_deadList 125 = .ok (.iconst 1, 1) := by decide +kernel
theorem dX8_deadList_126 : decode cX8_deadList 126 = .ok (.goto 4, 3) := by decide +kernel
theorem dX8_deadList_129 : decode cX8_deadList 129 = .ok (.iconst 0, 1) := by decide +kernel
theorem dX8_deadList_130 : decode cX8_deadList 130 = .ok (.istore 8, 2) := by decide +kernel
theorem dX8_deadList_132 : decode cX8_deadList 132 = .ok (.lload 5, 2) := by decide +kernel
theorem dX8_deadList_134 : decode cX8_deadList 134 = .ok (.iload 8, 2) := by decide +kernel
theorem dX8_deadList_136 : decode cX8_deadList 136 = .ok (.ifCond .eq 18, 3) := by decide +kernel
theorem dX8_deadList_139 : decode cX8_deadList 139 = .ok (.aload_n 0, 1) := by decide +kernel
theorem dX8_deadList_140 : decode cX8_deadList 140 = .ok (.getfield 7, 3) := by decide +kernel
theorem dX8_deadList_143 : decode cX8_deadList 143 = .ok (.sipush 362, 3) := by decide +kernel
theorem dX8_deadList_146 : decode cX8_deadList 146 = .ok (.iload 7, 2) := by decide +kernel
theorem dX8_deadList_148 : decode cX8_deadList 148 = .ok (.iadd, 1) := by decide +kernel
theorem dX8_deadList_149 : decode cX8_deadList 149 = .ok (.iaload, 1) := by decide +kernel
theorem dX8_deadList_150 : decode cX8_deadList 150 = .ok (.i2l, 1) := by decide +kernel
theorem dX8_deadList_151 : decode cX8_deadList 151 = .ok (.goto 4, 3) := by decide +kernel
theorem dX8_deadList_154 : decode cX8_deadList 154 = .ok (.lconst 0, 1) := by decide +kernel
theorem dX8_deadList_155 : decode cX8_deadList 155 = .ok (.ladd, 1) := by decide +kernel
theorem dX8_deadList_156 : decode cX8_deadList 156 = .ok (.lstore 5, 2) := by decide +kernel
theorem dX8_deadList_158 : decode cX8_deadList 158 = .ok (.iinc 7 1, 3) := by decide +kernel
theorem dX8_deadList_161 : decode cX8_deadList 161 = .ok (.goto (-106), 3) := by decide +kernel
theorem dX8_deadList_164 : decode cX8_deadList 164 = .ok (.lload 5, 2) := by decide +kernel
theorem dX8_deadList_166 : decode cX8_deadList 166 = .ok (.lreturn, 1) := by decide +kernel
set_option maxRecDepth 20000 in
theorem ggX8_space_X8_hasSlots : GoodIn wsX8_space wsX8_hasSlots := goodIn_r _ [6, 7, 8, 9, 5, 10, 11, 12, 13, 14, 15, 16, 17, 18, 19, 20, 21, 22, 23, 24, 25, 30, 31, 32, 33, 34, 35, 36, 37, 38, 39, 40, 41, 42] (by decide +kernel) (by decide +kernel)
set_option maxRecDepth 20000 in
theorem gX8_space_X8_hasSlots : GoodIn wsX8_space (wsV RX8 64 RX8 yX8_hasSlots wsX8_hasSlots) := goodIn_app (goodIn_of _ (by decide +kernel)) ggX8_space_X8_hasSlots
set_option maxRecDepth 20000 in
theorem ggX8_space_X8_spaceOf : GoodIn wsX8_space wsX8_spaceOf := goodIn_r _ [29, 11, 30, 31, 32, 33, 34, 35, 36, 37, 38, 39, 40, 41, 42] (by decide +kernel) (by decide +kernel)
set_option maxRecDepth 20000 in
theorem gX8_space_X8_spaceOf : GoodIn wsX8_space (wsV RX8 82 RX8 yX8_spaceOf wsX8_spaceOf) := goodIn_app (goodIn_of _ (by decide +kernel)) ggX8_space_X8_spaceOf
theorem dX8_space_0 : decode cX8_space 0 = .ok (.aload_n 0, 1) := by decide +kernel
theorem dX8_space_1 : decode cX8_space 1 = .ok (.iload_n 1, 1) := by decide +kernel
theorem dX8_space_2 : decode cX8_space 2 = .ok (.invokevirtual 64, 3) := by decide +kernel
theorem dX8_space_5 : decode cX8_space 5 = .ok (.ifCond .eq 11, 3) := by decide +kernel
theorem dX8_space_8 : decode cX8_space 8 = .ok (.aload_n 0, 1) := by decide +kernel
theorem dX8_space_9 : decode cX8_space 9 = .ok (.iload_n 1, 1) := by decide +kernel
theorem dX8_space_10 : decode cX8_space 10 = .ok (.invokevirtual 82, 3) := by decide +kernel
theorem dX8_space_13 : decode cX8_space 13 = .ok (.goto 6, 3) := by decide +kernel
theorem dX8_space_16 : decode cX8_space 16 = .ok (.ldc2_w 134, 3) := by decide +kernel
theorem dX8_space_19 : decode cX8_space 19 = .ok (.lreturn, 1) := by decide +kernel
set_option maxRecDepth 20000 in
theorem ggX8_aloneIn_X8_counts : GoodIn wsX8_aloneIn wsX8_counts := goodIn_r _ [7, 1, 2, 8, 9, 10, 6, 11, 12, 13, 14, 15, 16, 17, 18, 19, 20, 21, 22, 23, 24, 25, 26, 27, 28, 29, 34, 35, 36, 37, 38, 39, 40, 41, 42, 43, 44, 45, 46] (by decide +kernel) (by decide +kernel)
set_option maxRecDepth 20000 in
theorem gX8_aloneIn_X8_counts : GoodIn wsX8_aloneIn (wsV RX8 67 RX8 yX8_counts wsX8_counts) := goodIn_app (goodIn_of _ (by decide +kernel)) ggX8_aloneIn_X8_counts
set_option maxRecDepth 20000 in
theorem ggX8_aloneIn_X8_isHeld : GoodIn wsX8_aloneIn wsX8_isHeld := goodIn_r _ [33, 2, 8, 9, 10, 6, 11, 12, 13, 14, 15, 16, 17, 18, 19, 20, 21, 22, 23, 24, 25, 26, 27, 28, 29, 34, 35, 36, 37, 38, 39, 40, 41, 42, 43, 44, 45, 46] (by decide +kernel) (by decide +kernel)
set_option maxRecDepth 20000 in
theorem gX8_aloneIn_X8_isHeld : GoodIn wsX8_aloneIn (wsV RX8 125 RX8 yX8_isHeld wsX8_isHeld) := goodIn_app (goodIn_of _ (by decide +kernel)) ggX8_aloneIn_X8_isHeld
theorem dX8_aloneIn_0 : decode cX8_aloneIn 0 = .ok (.aload_n 0, 1) := by decide +kernel
theorem dX8_aloneIn_1 : decode cX8_aloneIn 1 = .ok (.invokevirtual 67, 3) := by decide +kernel
theorem dX8_aloneIn_4 : decode cX8_aloneIn 4 = .ok (.lconst 0, 1) := by decide +kernel
theorem dX8_aloneIn_5 : decode cX8_aloneIn 5 = .ok (.lstore_n 2, 1) := by decide +kernel
theorem dX8_aloneIn_6 : decode cX8_aloneIn 6 = .ok (.iconst 0, 1) := by decide +kernel
theorem dX8_aloneIn_7 : decode cX8_aloneIn 7 = .ok (.istore 4, 2) := by decide +kernel
theorem dX8_aloneIn_9 : decode cX8_aloneIn 9 = .ok (.iload 4, 2) := by decide +kernel
theorem dX8_aloneIn_11 : decode cX8_aloneIn 11 = .ok (.bipush 96, 2) := by decide +kernel
theorem dX8_aloneIn_13 : decode cX8_aloneIn 13 = .ok (.if_icmp .ge 95, 3) := by decide +kernel
theorem dX8_aloneIn_16 : decode cX8_aloneIn 16 = .ok (.iconst 0, 1) := by decide +kernel
theorem dX8_aloneIn_17 : decode cX8_aloneIn 17 = .ok (.istore 5, 2) := by decide +kernel
theorem dX8_aloneIn_19 : decode cX8_aloneIn 19 = .ok (.iconst 0, 1) := by decide +kernel
theorem dX8_aloneIn_20 : decode cX8_aloneIn 20 = .ok (.istore 6, 2) := by decide +kernel
theorem dX8_aloneIn_22 : decode cX8_aloneIn 22 = .ok (.iload 6, 2) := by decide +kernel
theorem dX8_aloneIn_24 : decode cX8_aloneIn 24 = .ok (.bipush 20, 2) := by decide +kernel
theorem dX8_aloneIn_26 : decode cX8_aloneIn 26 = .ok (.if_icmp .ge 40, 3) := by decide +kernel
theorem dX8_aloneIn_29 : decode cX8_aloneIn 29 = .ok (.iload 5, 2) := by decide +kernel
theorem dX8_aloneIn_31 : decode cX8_aloneIn 31 = .ok (.iload_n 1, 1) := by decide +kernel
theorem dX8_aloneIn_32 : decode cX8_aloneIn 32 = .ok (.iload 6, 2) := by decide +kernel
theorem dX8_aloneIn_34 : decode cX8_aloneIn 34 = .ok (.ishr, 1) := by decide +kernel
theorem dX8_aloneIn_35 : decode cX8_aloneIn 35 = .ok (.iconst 1, 1) := by decide +kernel
theorem dX8_aloneIn_36 : decode cX8_aloneIn 36 = .ok (.iand, 1) := by decide +kernel
theorem dX8_aloneIn_37 : decode cX8_aloneIn 37 = .ok (.iconst 1, 1) := by decide +kernel
theorem dX8_aloneIn_38 : decode cX8_aloneIn 38 = .ok (.if_icmp .ne 18, 3) := by decide +kernel
theorem dX8_aloneIn_41 : decode cX8_aloneIn 41 = .ok (.aload_n 0, 1) := by decide +kernel
theorem dX8_aloneIn_42 : decode cX8_aloneIn 42 = .ok (.iload 6, 2) := by decide +kernel
theorem dX8_aloneIn_44 : decode cX8_aloneIn 44 = .ok (.iload 4, 2) := by decide +kernel
theorem dX8_aloneIn_46 : decode cX8_aloneIn 46 = .ok (.invokevirtual 125, 3) := by decide +kernel
theorem dX8_aloneIn_49 : decode cX8_aloneIn 49 = .ok (.ifCond .eq 7, 3) := by decide +kernel
theorem dX8_aloneIn_52 : decode cX8_aloneIn 52 = .ok (.iconst 1, 1) := by decide +kernel
theorem dX8_aloneIn_53 : decode cX8_aloneIn 53 = .ok (.goto 4, 3) := by decide +kernel
theorem dX8_aloneIn_56 : decode cX8_aloneIn 56 = .ok (.iconst 0, 1) := by decide +kernel
theorem dX8_aloneIn_57 : decode cX8_aloneIn 57 = .ok (.iadd, 1) := by decide +kernel
theorem dX8_aloneIn_58 : decode cX8_aloneIn 58 = .ok (.istore 5, 2) := by decide +kernel
theorem dX8_aloneIn_60 : decode cX8_aloneIn 60 = .ok (.iinc 6 1, 3) := by decide +kernel
theorem dX8_aloneIn_63 : decode cX8_aloneIn 63 = .ok (.goto (-41), 3) := by decide +kernel
theorem dX8_aloneIn_66 : decode cX8_aloneIn 66 = .ok (.lload_n 2, 1) := by decide +kernel
theorem dX8_aloneIn_67 : decode cX8_aloneIn 67 = .ok (.iload 5, 2) := by decide +kernel
theorem dX8_aloneIn_69 : decode cX8_aloneIn 69 = .ok (.ifCond .le 30, 3) := by decide +kernel
theorem dX8_aloneIn_72 : decode cX8_aloneIn 72 = .ok (.iload 5, 2) := by decide +kernel
theorem dX8_aloneIn_74 : decode cX8_aloneIn 74 = .ok (.aload_n 0, 1) := by decide +kernel
theorem dX8_aloneIn_75 : decode cX8_aloneIn 75 = .ok (.getfield 19, 3) := by decide +kernel
theorem dX8_aloneIn_78 : decode cX8_aloneIn 78 = .ok (.iload 4, 2) := by decide +kernel
theorem dX8_aloneIn_80 : decode cX8_aloneIn 80 = .ok (.iaload, 1) := by decide +kernel
theorem dX8_aloneIn_81 : decode cX8_aloneIn 81 = .ok (.if_icmp .ne 18, 3) := by decide +kernel
theorem dX8_aloneIn_84 : decode cX8_aloneIn 84 = .ok (.aload_n 0, 1) := by decide +kernel
theorem dX8_aloneIn_85 : decode cX8_aloneIn 85 = .ok (.getfield 7, 3) := by decide +kernel
theorem dX8_aloneIn_88 : decode cX8_aloneIn 88 = .ok (.sipush 362, 3) := by decide +kernel
theorem dX8_aloneIn_91 : decode cX8_aloneIn 91 = .ok (.iload 4, 2) := by decide +kernel
theorem dX8_aloneIn_93 : decode cX8_aloneIn 93 = .ok (.iadd, 1) := by decide +kernel
theorem dX8_aloneIn_94 : decode cX8_aloneIn 94 = .ok (.iaload, 1) := by decide +kernel
theorem dX8_aloneIn_95 : decode cX8_aloneIn 95 = .ok (.i2l, 1) := by decide +kernel
theorem dX8_aloneIn_96 : decode cX8_aloneIn 96 = .ok (.goto 4, 3) := by decide +kernel
theorem dX8_aloneIn_99 : decode cX8_aloneIn 99 = .ok (.lconst 0, 1) := by decide +kernel
theorem dX8_aloneIn_100 : decode cX8_aloneIn 100 = .ok (.ladd, 1) := by decide +kernel
theorem dX8_aloneIn_101 : decode cX8_aloneIn 101 = .ok (.lstore_n 2, 1) := by decide +kernel
theorem dX8_aloneIn_102 : decode cX8_aloneIn 102 = .ok (.iinc 4 1, 3) := by decide +kernel
theorem dX8_aloneIn_105 : decode cX8_aloneIn 105 = .ok (.goto (-96), 3) := by decide +kernel
theorem dX8_aloneIn_108 : decode cX8_aloneIn 108 = .ok (.lload_n 2, 1) := by decide +kernel
theorem dX8_aloneIn_109 : decode cX8_aloneIn 109 = .ok (.lreturn, 1) := by decide +kernel
set_option maxRecDepth 20000 in
theorem ggX8_alone_X8_hasSlots : GoodIn wsX8_alone wsX8_hasSlots := goodIn_r _ [6, 7, 8, 9, 5, 10, 11, 12, 13, 14, 15, 16, 17, 18, 19, 20, 21, 22, 23, 24, 25, 39, 40, 41, 42, 43, 44, 45, 46, 47, 48, 49, 50, 51] (by decide +kernel) (by decide +kernel)
set_option maxRecDepth 20000 in
theorem gX8_alone_X8_hasSlots : GoodIn wsX8_alone (wsV RX8 64 RX8 yX8_hasSlots wsX8_hasSlots) := goodIn_app (goodIn_of _ (by decide +kernel)) ggX8_alone_X8_hasSlots
set_option maxRecDepth 20000 in
theorem ggX8_alone_X8_aloneIn : GoodIn wsX8_alone wsX8_aloneIn := goodIn_r _ [29, 30, 11, 31, 32, 33, 5, 34, 2, 3, 4, 6, 7, 8, 9, 10, 12, 13, 14, 15, 16, 17, 18, 19, 20, 21, 22, 23, 24, 25, 35, 36, 37, 38, 39, 40, 41, 42, 43, 44, 45, 46, 47, 48, 49, 50, 51] (by decide +kernel) (by decide +kernel)
set_option maxRecDepth 20000 in
theorem gX8_alone_X8_aloneIn : GoodIn wsX8_alone (wsV RX8 136 RX8 yX8_aloneIn wsX8_aloneIn) := goodIn_app (goodIn_of _ (by decide +kernel)) ggX8_alone_X8_aloneIn
theorem dX8_alone_0 : decode cX8_alone 0 = .ok (.aload_n 0, 1) := by decide +kernel
theorem dX8_alone_1 : decode cX8_alone 1 = .ok (.iload_n 1, 1) := by decide +kernel
theorem dX8_alone_2 : decode cX8_alone 2 = .ok (.invokevirtual 64, 3) := by decide +kernel
theorem dX8_alone_5 : decode cX8_alone 5 = .ok (.ifCond .eq 13, 3) := by decide +kernel
theorem dX8_alone_8 : decode cX8_alone 8 = .ok (.aload_n 0, 1) := by decide +kernel
theorem dX8_alone_9 : decode cX8_alone 9 = .ok (.iconst 1, 1) := by decide +kernel
theorem dX8_alone_10 : decode cX8_alone 10 = .ok (.iload_n 1, 1) := by decide +kernel
theorem dX8_alone_11 : decode cX8_alone 11 = .ok (.ishl, 1) := by decide +kernel
theorem dX8_alone_12 : decode cX8_alone 12 = .ok (.invokevirtual 136, 3) := by decide +kernel
theorem dX8_alone_15 : decode cX8_alone 15 = .ok (.goto 6, 3) := by decide +kernel
theorem dX8_alone_18 : decode cX8_alone 18 = .ok (.ldc2_w 134, 3) := by decide +kernel
theorem dX8_alone_21 : decode cX8_alone 21 = .ok (.lreturn, 1) := by decide +kernel
set_option maxRecDepth 20000 in
theorem ggX8_range_X8_isSnapshot : GoodIn wsX8_range wsX8_isSnapshot := goodIn_r _ [7, 2, 8, 9, 10, 6, 11, 12, 13, 14, 15, 16, 17, 39, 40, 41, 42, 43, 44, 45, 46, 47, 48, 49, 50, 51] (by decide +kernel) (by decide +kernel)
set_option maxRecDepth 20000 in
theorem gX8_range_X8_isSnapshot : GoodIn wsX8_range (wsV RX8 57 RX8 yX8_isSnapshot wsX8_isSnapshot) := goodIn_app (goodIn_of _ (by decide +kernel)) ggX8_range_X8_isSnapshot
set_option maxRecDepth 20000 in
theorem ggX8_range_X8_aloneIn : GoodIn wsX8_range wsX8_aloneIn := goodIn_r _ [21, 22, 2, 23, 24, 25, 6, 26, 27, 28, 29, 30, 31, 32, 33, 34, 8, 9, 10, 11, 12, 13, 14, 15, 16, 17, 3, 4, 5, 7, 35, 36, 37, 38, 39, 40, 41, 42, 43, 44, 45, 46, 47, 48, 49, 50, 51] (by decide +kernel) (by decide +kernel)
set_option maxRecDepth 20000 in
theorem gX8_range_X8_aloneIn : GoodIn wsX8_range (wsV RX8 136 RX8 yX8_aloneIn wsX8_aloneIn) := goodIn_app (goodIn_of _ (by decide +kernel)) ggX8_range_X8_aloneIn
theorem dX8_range_0 : decode cX8_range 0 = .ok (.aload_n 0, 1) := by decide +kernel
theorem dX8_range_1 : decode cX8_range 1 = .ok (.iload_n 1, 1) := by decide +kernel
theorem dX8_range_2 : decode cX8_range 2 = .ok (.invokevirtual 57, 3) := by decide +kernel
theorem dX8_range_5 : decode cX8_range 5 = .ok (.ifCond .eq 11, 3) := by decide +kernel
theorem dX8_range_8 : decode cX8_range 8 = .ok (.aload_n 0, 1) := by decide +kernel
theorem dX8_range_9 : decode cX8_range 9 = .ok (.iload_n 2, 1) := by decide +kernel
theorem dX8_range_10 : decode cX8_range 10 = .ok (.invokevirtual 57, 3) := by decide +kernel
theorem dX8_range_13 : decode cX8_range 13 = .ok (.ifCond .ne 7, 3) := by decide +kernel
theorem dX8_range_16 : decode cX8_range 16 = .ok (.ldc2_w 134, 3) := by decide +kernel
theorem dX8_range_19 : decode cX8_range 19 = .ok (.lreturn, 1) := by decide +kernel
theorem dX8_range_20 : decode cX8_range 20 = .ok (.iconst 0, 1) := by decide +kernel
theorem dX8_range_21 : decode cX8_range 21 = .ok (.istore_n 3, 1) := by decide +kernel
theorem dX8_range_22 : decode cX8_range 22 = .ok (.iload_n 2, 1) := by decide +kernel
theorem dX8_range_23 : decode cX8_range 23 = .ok (.istore 4, 2) := by decide +kernel
theorem dX8_range_25 : decode cX8_range 25 = .ok (.iload 4, 2) := by decide +kernel
theorem dX8_range_27 : decode cX8_range 27 = .ok (.iconst (-1), 1) := by decide +kernel
theorem dX8_range_28 : decode cX8_range 28 = .ok (.if_icmp .eq 31, 3) := by decide +kernel
theorem dX8_range_31 : decode cX8_range 31 = .ok (.iload 4, 2) := by decide +kernel
theorem dX8_range_33 : decode cX8_range 33 = .ok (.iload_n 1, 1) := by decide +kernel
theorem dX8_range_34 : decode cX8_range 34 = .ok (.if_icmp .eq 25, 3) := by decide +kernel
theorem dX8_range_37 : decode cX8_range 37 = .ok (.iload_n 3, 1) := by decide +kernel
theorem dX8_range_38 : decode cX8_range 38 = .ok (.iconst 1, 1) := by decide +kernel
theorem dX8_range_39 : decode cX8_range 39 = .ok (.iload 4, 2) := by decide +kernel
theorem dX8_range_41 : decode cX8_range 41 = .ok (.ishl, 1) := by decide +kernel
theorem dX8_range_42 : decode cX8_range 42 = .ok (.ior, 1) := by decide +kernel
theorem dX8_range_43 : decode cX8_range 43 = .ok (.istore_n 3, 1) := by decide +kernel
theorem dX8_range_44 : decode cX8_range 44 = .ok (.aload_n 0, 1) := by decide +kernel
theorem dX8_range_45 : decode cX8_range 45 = .ok (.getfield 7, 3) := by decide +kernel
theorem dX8_range_48 : decode cX8_range 48 = .ok (.bipush 42, 2) := by decide +kernel
theorem dX8_range_50 : decode cX8_range 50 = .ok (.iload 4, 2) := by decide +kernel
theorem dX8_range_52 : decode cX8_range 52 = .ok (.iadd, 1) := by decide +kernel
theorem dX8_range_53 : decode cX8_range 53 = .ok (.iaload, 1) := by decide +kernel
theorem dX8_range_54 : decode cX8_range 54 = .ok (.istore 4, 2) := by decide +kernel
theorem dX8_range_56 : decode cX8_range 56 = .ok (.goto (-31), 3) := by decide +kernel
theorem dX8_range_59 : decode cX8_range 59 = .ok (.iload 4, 2) := by decide +kernel
theorem dX8_range_61 : decode cX8_range 61 = .ok (.iconst (-1), 1) := by decide +kernel
theorem dX8_range_62 : decode cX8_range 62 = .ok (.if_icmp .ne 9, 3) := by decide +kernel
theorem dX8_range_65 : decode cX8_range 65 = .ok (.ldc2_w 134, 3) := by decide +kernel
theorem dX8_range_68 : decode cX8_range 68 = .ok (.goto 12, 3) := by decide +kernel
theorem dX8_range_71 : decode cX8_range 71 = .ok (.aload_n 0, 1) := by decide +kernel
theorem dX8_range_72 : decode cX8_range 72 = .ok (.iload_n 3, 1) := by decide +kernel
theorem dX8_range_73 : decode cX8_range 73 = .ok (.iconst 1, 1) := by decide +kernel
theorem dX8_range_74 : decode cX8_range 74 = .ok (.iload_n 1, 1) := by decide +kernel
theorem dX8_range_75 : decode cX8_range 75 = .ok (.ishl, 1) := by decide +kernel
theorem dX8_range_76 : decode cX8_range 76 = .ok (.ior, 1) := by decide +kernel
theorem dX8_range_77 : decode cX8_range 77 = .ok (.invokevirtual 136, 3) := by decide +kernel
theorem dX8_range_80 : decode cX8_range 80 = .ok (.lreturn, 1) := by decide +kernel
set_option maxRecDepth 20000 in
theorem ggX8_since_X8_hasSlots : GoodIn wsX8_since wsX8_hasSlots := goodIn_r _ [7, 8, 9, 10, 6, 11, 2, 12, 13, 14, 15, 16, 17, 18, 19, 20, 21, 22, 23, 24, 25, 26, 27, 28, 29, 30, 31, 32, 33, 34, 35, 36, 37, 38] (by decide +kernel) (by decide +kernel)
set_option maxRecDepth 20000 in
theorem gX8_since_X8_hasSlots : GoodIn wsX8_since (wsV RX8 64 RX8 yX8_hasSlots wsX8_hasSlots) := goodIn_app (goodIn_of _ (by decide +kernel)) ggX8_since_X8_hasSlots
set_option maxRecDepth 20000 in
theorem ggX8_since_X8_isThing : GoodIn wsX8_since wsX8_isThing := goodIn_r _ [15, 2, 16, 17, 6, 18, 26, 27, 28, 29, 30, 31, 32, 33, 34, 35, 36, 37, 38] (by decide +kernel) (by decide +kernel)
set_option maxRecDepth 20000 in
theorem gX8_since_X8_isThing : GoodIn wsX8_since (wsV RX8 46 RX8 yX8_isThing wsX8_isThing) := goodIn_app (goodIn_of _ (by decide +kernel)) ggX8_since_X8_isThing
theorem dX8_since_0 : decode cX8_since 0 = .ok (.aload_n 0, 1) := by decide +kernel
theorem dX8_since_1 : decode cX8_since 1 = .ok (.iload_n 1, 1) := by decide +kernel
theorem dX8_since_2 : decode cX8_since 2 = .ok (.invokevirtual 64, 3) := by decide +kernel
theorem dX8_since_5 : decode cX8_since 5 = .ok (.ifCond .eq 11, 3) := by decide +kernel
theorem dX8_since_8 : decode cX8_since 8 = .ok (.aload_n 0, 1) := by decide +kernel
theorem dX8_since_9 : decode cX8_since 9 = .ok (.iload_n 2, 1) := by decide +kernel
theorem dX8_since_10 : decode cX8_since 10 = .ok (.invokevirtual 46, 3) := by decide +kernel
theorem dX8_since_13 : decode cX8_since 13 = .ok (.ifCond .ne 7, 3) := by decide +kernel
theorem dX8_since_16 : decode cX8_since 16 = .ok (.ldc2_w 134, 3) := by decide +kernel
theorem dX8_since_19 : decode cX8_since 19 = .ok (.lreturn, 1) := by decide +kernel
theorem dX8_since_20 : decode cX8_since 20 = .ok (.lconst 0, 1) := by decide +kernel
theorem dX8_since_21 : decode cX8_since 21 = .ok (.lstore_n 3, 1) := by decide +kernel
theorem dX8_since_22 : decode cX8_since 22 = .ok (.iconst 0, 1) := by decide +kernel
theorem dX8_since_23 : decode cX8_since 23 = .ok (.istore 5, 2) := by decide +kernel
theorem dX8_since_25 : decode cX8_since 25 = .ok (.iload 5, 2) := by decide +kernel
theorem dX8_since_27 : decode cX8_since 27 = .ok (.bipush 12, 2) := by decide +kernel
theorem dX8_since_29 : decode cX8_since 29 = .ok (.if_icmp .ge 74, 3) := by decide +kernel
theorem dX8_since_32 : decode cX8_since 32 = .ok (.aload_n 0, 1) := by decide +kernel
theorem dX8_since_33 : decode cX8_since 33 = .ok (.getfield 7, 3) := by decide +kernel
theorem dX8_since_36 : decode cX8_since 36 = .ok (.bipush 122, 2) := by decide +kernel
theorem dX8_since_38 : decode cX8_since 38 = .ok (.bipush 12, 2) := by decide +kernel
theorem dX8_since_40 : decode cX8_since 40 = .ok (.iload_n 1, 1) := by decide +kernel
theorem dX8_since_41 : decode cX8_since 41 = .ok (.imul, 1) := by decide +kernel
theorem dX8_since_42 : decode cX8_since 42 = .ok (.iadd, 1) := by decide +kernel
theorem dX8_since_43 : decode cX8_since 43 = .ok (.iload 5, 2) := by decide +kernel
theorem dX8_since_45 : decode cX8_since 45 = .ok (.iadd, 1) := by decide +kernel
theorem dX8_since_46 : decode cX8_since 46 = .ok (.iaload, 1) := by decide +kernel
theorem dX8_since_47 : decode cX8_since 47 = .ok (.istore 6, 2) := by decide +kernel
theorem dX8_since_49 : decode cX8_since 49 = .ok (.lload_n 3, 1) := by decide +kernel
theorem dX8_since_50 : decode cX8_since 50 = .ok (.iload 6, 2) := by decide +kernel
theorem dX8_since_52 : decode cX8_since 52 = .ok (.iconst (-1), 1) := by decide +kernel
theorem dX8_since_53 : decode cX8_since 53 = .ok (.if_icmp .eq 41, 3) := by decide +kernel
theorem dX8_since_56 : decode cX8_since 56 = .ok (.aload_n 0, 1) := by decide +kernel
theorem dX8_since_57 : decode cX8_since 57 = .ok (.getfield 7, 3) := by decide +kernel
theorem dX8_since_60 : decode cX8_since 60 = .ok (.sipush 458, 3) := by decide +kernel
theorem dX8_since_63 : decode cX8_since 63 = .ok (.iload 6, 2) := by decide +kernel
theorem dX8_since_65 : decode cX8_since 65 = .ok (.iadd, 1) := by decide +kernel
theorem dX8_since_66 : decode cX8_since 66 = .ok (.iaload, 1) := by decide +kernel
theorem dX8_since_67 : decode cX8_since 67 = .ok (.aload_n 0, 1) := by decide +kernel
theorem dX8_since_68 : decode cX8_since 68 = .ok (.getfield 7, 3) := by decide +kernel
theorem dX8_since_71 : decode cX8_since 71 = .ok (.bipush 22, 2) := by decide +kernel
theorem dX8_since_73 : decode cX8_since 73 = .ok (.iload_n 2, 1) := by decide +kernel
theorem dX8_since_74 : decode cX8_since 74 = .ok (.iadd, 1) := by decide +kernel
theorem dX8_since_75 : decode cX8_since 75 = .ok (.iaload, 1) := by decide +kernel
theorem dX8_since_76 : decode cX8_since 76 = .ok (.if_icmp .le 18, 3) := by decide +kernel
theorem dX8_since_79 : decode cX8_since 79 = .ok (.aload_n 0, 1) := by decide +kernel
theorem dX8_since_80 : decode cX8_since 80 = .ok (.getfield 7, 3) := by decide +kernel
theorem dX8_since_83 : decode cX8_since 83 = .ok (.sipush 362, 3) := by decide +kernel
theorem dX8_since_86 : decode cX8_since 86 = .ok (.iload 6, 2) := by decide +kernel
theorem dX8_since_88 : decode cX8_since 88 = .ok (.iadd, 1) := by decide +kernel
theorem dX8_since_89 : decode cX8_since 89 = .ok (.iaload, 1) := by decide +kernel
theorem dX8_since_90 : decode cX8_since 90 = .ok (.i2l, 1) := by decide +kernel
theorem dX8_since_91 : decode cX8_since 91 = .ok (.goto 4, 3) := by decide +kernel
theorem dX8_since_94 : decode cX8_since 94 = .ok (.lconst 0, 1) := by decide +kernel
theorem dX8_since_95 : decode cX8_since 95 = .ok (.ladd, 1) := by decide +kernel
theorem dX8_since_96 : decode cX8_since 96 = .ok (.lstore_n 3, 1) := by decide +kernel
theorem dX8_since_97 : decode cX8_since 97 = .ok (.iinc 5 1, 3) := by decide +kernel
theorem dX8_since_100 : decode cX8_since 100 = .ok (.goto (-75), 3) := by decide +kernel
theorem dX8_since_103 : decode cX8_since 103 = .ok (.lload_n 3, 1) := by decide +kernel
theorem dX8_since_104 : decode cX8_since 104 = .ok (.lreturn, 1) := by decide +kernel
set_option maxRecDepth 20000 in
theorem ggX8_common_X8_hasSlots : GoodIn wsX8_common wsX8_hasSlots := goodIn_r _ [7, 8, 9, 10, 6, 11, 2, 12, 13, 14, 15, 16, 17, 18, 19, 20, 21, 22, 23, 24, 25, 30, 31, 32, 33, 34, 35, 36, 37, 38, 39, 40, 41, 42] (by decide +kernel) (by decide +kernel)
set_option maxRecDepth 20000 in
theorem gX8_common_X8_hasSlots : GoodIn wsX8_common (wsV RX8 64 RX8 yX8_hasSlots wsX8_hasSlots) := goodIn_app (goodIn_of _ (by decide +kernel)) ggX8_common_X8_hasSlots
set_option maxRecDepth 20000 in
theorem ggX8_common_X8_isHeld : GoodIn wsX8_common wsX8_isHeld := goodIn_r _ [29, 2, 3, 4, 5, 6, 7, 8, 9, 10, 11, 12, 13, 14, 15, 16, 17, 18, 19, 20, 21, 22, 23, 24, 25, 30, 31, 32, 33, 34, 35, 36, 37, 38, 39, 40, 41, 42] (by decide +kernel) (by decide +kernel)
set_option maxRecDepth 20000 in
theorem gX8_common_X8_isHeld : GoodIn wsX8_common (wsV RX8 125 RX8 yX8_isHeld wsX8_isHeld) := goodIn_app (goodIn_of _ (by decide +kernel)) ggX8_common_X8_isHeld
theorem dX8_common_0 : decode cX8_common 0 = .ok (.aload_n 0, 1) := by decide +kernel
theorem dX8_common_1 : decode cX8_common 1 = .ok (.iload_n 1, 1) := by decide +kernel
theorem dX8_common_2 : decode cX8_common 2 = .ok (.invokevirtual 64, 3) := by decide +kernel
theorem dX8_common_5 : decode cX8_common 5 = .ok (.ifCond .eq 11, 3) := by decide +kernel
theorem dX8_common_8 : decode cX8_common 8 = .ok (.aload_n 0, 1) := by decide +kernel
theorem dX8_common_9 : decode cX8_common 9 = .ok (.iload_n 2, 1) := by decide +kernel
theorem dX8_common_10 : decode cX8_common 10 = .ok (.invokevirtual 64, 3) := by decide +kernel
theorem dX8_common_13 : decode cX8_common 13 = .ok (.ifCond .ne 7, 3) := by decide +kernel
theorem dX8_common_16 : decode cX8_common 16 = .ok (.ldc2_w 134, 3) := by decide +kernel
theorem dX8_common_19 : decode cX8_common 19 = .ok (.lreturn, 1) := by decide +kernel
theorem dX8_common_20 : decode cX8_common 20 = .ok (.lconst 0, 1) := by decide +kernel
theorem dX8_common_21 : decode cX8_common 21 = .ok (.lstore_n 3, 1) := by decide +kernel
theorem dX8_common_22 : decode cX8_common 22 = .ok (.iconst 0, 1) := by decide +kernel
theorem dX8_common_23 : decode cX8_common 23 = .ok (.istore 5, 2) := by decide +kernel
theorem dX8_common_25 : decode cX8_common 25 = .ok (.iload 5, 2) := by decide +kernel
theorem dX8_common_27 : decode cX8_common 27 = .ok (.bipush 96, 2) := by decide +kernel
theorem dX8_common_29 : decode cX8_common 29 = .ok (.if_icmp .ge 62, 3) := by decide +kernel
theorem dX8_common_32 : decode cX8_common 32 = .ok (.lload_n 3, 1) := by decide +kernel
theorem dX8_common_33 : decode cX8_common 33 = .ok (.aload_n 0, 1) := by decide +kernel
theorem dX8_common_34 : decode cX8_common 34 = .ok (.getfield 7, 3) := by decide +kernel
theorem dX8_common_37 : decode cX8_common 37 = .ok (.sipush 362, 3) := by decide +kernel
theorem dX8_common_40 : decode cX8_common 40 = .ok (.iload 5, 2) := by decide +kernel
theorem dX8_common_42 : decode cX8_common 42 = .ok (.iadd, 1) := by decide +kernel
theorem dX8_common_43 : decode cX8_common 43 = .ok (.iaload, 1) := by decide +kernel
theorem dX8_common_44 : decode cX8_common 44 = .ok (.ifCond .le 38, 3) := by decide +kernel
theorem dX8_common_47 : decode cX8_common 47 = .ok (.aload_n 0, 1) := by decide +kernel
theorem dX8_common_48 : decode cX8_common 48 = .ok (.iload_n 1, 1) := by decide +kernel
theorem dX8_common_49 : decode cX8_common 49 = .ok (.iload 5, 2) := by decide +kernel
theorem dX8_common_51 : decode cX8_common 51 = .ok (.invokevirtual 125, 3) := by decide +kernel
theorem dX8_common_54 : decode cX8_common 54 = .ok (.ifCond .eq 28, 3) := by decide +kernel
theorem dX8_common_57 : decode cX8_common 57 = .ok (.aload_n 0, 1) := by decide +kernel
theorem dX8_common_58 : decode cX8_common 58 = .ok (.iload_n 2, 1) := by decide +kernel
theorem dX8_common_59 : decode cX8_common 59 = .ok (.iload 5, 2) := by decide +kernel
theorem dX8_common_61 : decode cX8_common 61 = .ok (.invokevirtual 125, 3) := by decide +kernel
theorem dX8_common_64 : decode cX8_common 64 = .ok (.ifCond .eq 18, 3) := by decide +kernel
theorem dX8_common_67 : decode cX8_common 67 = .ok (.aload_n 0, 1) := by decide +kernel
theorem dX8_common_68 : decode cX8_common 68 = .ok (.getfield 7, 3) := by decide +kernel
theorem dX8_common_71 : decode cX8_common 71 = .ok (.sipush 362, 3) := by decide +kernel
theorem dX8_common_74 : decode cX8_common 74 = .ok (.iload 5, 2) := by decide +kernel
theorem dX8_common_76 : decode cX8_common 76 = .ok (.iadd, 1) := by decide +kernel
theorem dX8_common_77 : decode cX8_common 77 = .ok (.iaload, 1) := by decide +kernel
theorem dX8_common_78 : decode cX8_common 78 = .ok (.i2l, 1) := by decide +kernel
theorem dX8_common_79 : decode cX8_common 79 = .ok (.goto 4, 3) := by decide +kernel
theorem dX8_common_82 : decode cX8_common 82 = .ok (.lconst 0, 1) := by decide +kernel
theorem dX8_common_83 : decode cX8_common 83 = .ok (.ladd, 1) := by decide +kernel
theorem dX8_common_84 : decode cX8_common 84 = .ok (.lstore_n 3, 1) := by decide +kernel
theorem dX8_common_85 : decode cX8_common 85 = .ok (.iinc 5 1, 3) := by decide +kernel
theorem dX8_common_88 : decode cX8_common 88 = .ok (.goto (-63), 3) := by decide +kernel
theorem dX8_common_91 : decode cX8_common 91 = .ok (.lload_n 3, 1) := by decide +kernel
theorem dX8_common_92 : decode cX8_common 92 = .ok (.lreturn, 1) := by decide +kernel
set_option maxRecDepth 20000 in
theorem ggX8_looksForOwned_X8_isSnapshot : GoodIn wsX8_looksForOwned wsX8_isSnapshot := goodIn_r _ [8, 2, 9, 10, 11, 7, 12, 13, 14, 15, 16, 17, 18, 19, 20, 21, 22, 23, 24, 25, 26, 27, 28, 29, 30, 31] (by decide +kernel) (by decide +kernel)
set_option maxRecDepth 20000 in
theorem gX8_looksForOwned_X8_isSnapshot : GoodIn wsX8_looksForOwned (wsV RX8 57 RX8 yX8_isSnapshot wsX8_isSnapshot) := goodIn_app (goodIn_of _ (by decide +kernel)) ggX8_looksForOwned_X8_isSnapshot
theorem dX8_looksForOwned_0 : decode cX8_looksForOwned 0 = .ok (.aload_n 0, 1) := by decide +kernel
theorem dX8_looksForOwned_1 : decode cX8_looksForOwned 1 = .ok (.iconst 0, 1) := by decide +kernel
theorem dX8_looksForOwned_2 : decode cX8_looksForOwned 2 = .ok (.putfield 139, 3) := by decide +kernel
theorem dX8_looksForOwned_5 : decode cX8_looksForOwned 5 = .ok (.iconst 0, 1) := by decide +kernel
theorem dX8_looksForOwned_6 : decode cX8_looksForOwned 6 = .ok (.istore_n 2, 1) := by decide +kernel
theorem dX8_looksForOwned_7 : decode cX8_looksForOwned 7 = .ok (.iload_n 2, 1) := by decide +kernel
theorem dX8_looksForOwned_8 : decode cX8_looksForOwned 8 = .ok (.bipush 20, 2) := by decide +kernel
theorem dX8_looksForOwned_10 : decode cX8_looksForOwned 10 = .ok (.if_icmp .ge 104, 3) := by decide +kernel
theorem dX8_looksForOwned_13 : decode cX8_looksForOwned 13 = .ok (.aload_n 0, 1) := by decide +kernel
theorem dX8_looksForOwned_14 : decode cX8_looksForOwned 14 = .ok (.iload_n 2, 1) := by decide +kernel
theorem dX8_looksForOwned_15 : decode cX8_looksForOwned 15 = .ok (.invokevirtual 57, 3) := by decide +kernel
theorem dX8_looksForOwned_18 : decode cX8_looksForOwned 18 = .ok (.ifCond .eq 90, 3) := by decide +kernel
theorem dX8_looksForOwned_21 : decode cX8_looksForOwned 21 = .ok (.aload_n 0, 1) := by decide +kernel
theorem dX8_looksForOwned_22 : decode cX8_looksForOwned 22 = .ok (.getfield 7, 3) := by decide +kernel
theorem dX8_looksForOwned_25 : decode cX8_looksForOwned 25 = .ok (.bipush 62, 2) := by decide +kernel
theorem dX8_looksForOwned_27 : decode cX8_looksForOwned 27 = .ok (.iload_n 2, 1) := by decide +kernel
theorem dX8_looksForOwned_28 : decode cX8_looksForOwned 28 = .ok (.iadd, 1) := by decide +kernel
theorem dX8_looksForOwned_29 : decode cX8_looksForOwned 29 = .ok (.iaload, 1) := by decide +kernel
theorem dX8_looksForOwned_30 : decode cX8_looksForOwned 30 = .ok (.iload_n 1, 1) := by decide +kernel
theorem dX8_looksForOwned_31 : decode cX8_looksForOwned 31 = .ok (.if_icmp .ne 77, 3) := by decide +kernel
theorem dX8_looksForOwned_34 : decode cX8_looksForOwned 34 = .ok (.aload_n 0, 1) := by decide +kernel
theorem dX8_looksForOwned_35 : decode cX8_looksForOwned 35 = .ok (.getfield 139, 3) := by decide +kernel
theorem dX8_looksForOwned_38 : decode cX8_looksForOwned 38 = .ok (.istore_n 3, 1) := by decide +kernel
theorem dX8_looksForOwned_39 : decode cX8_looksForOwned 39 = .ok (.iload_n 3, 1) := by decide +kernel
theorem dX8_looksForOwned_40 : decode cX8_looksForOwned 40 = .ok (.ifCond .le 51, 3) := by decide +kernel
theorem dX8_looksForOwned_43 : decode cX8_looksForOwned 43 = .ok (.aload_n 0, 1) := by decide +kernel
theorem dX8_looksForOwned_44 : decode cX8_looksForOwned 44 = .ok (.getfield 7, 3) := by decide +kernel
theorem dX8_looksForOwned_47 : decode cX8_looksForOwned 47 = .ok (.bipush 22, 2) := by decide +kernel
theorem dX8_looksForOwned_49 : decode cX8_looksForOwned 49 = .ok (.aload_n 0, 1) := by decide +kernel
theorem dX8_looksForOwned_50 : decode cX8_looksForOwned 50 = .ok (.getfield 22, 3) := by decide +kernel
theorem dX8_looksForOwned_53 : decode cX8_looksForOwned 53 = .ok (.iload_n 3, 1) := by decide +kernel
theorem dX8_looksForOwned_54 : decode cX8_looksForOwned 54 = .ok (.iconst 1, 1) := by decide +kernel
theorem dX8_looksForOwned_55 : decode cX8_looksForOwned 55 = .ok (.isub, 1) := by decide +kernel
theorem dX8_looksForOwned_56 : decode cX8_looksForOwned 56 = .ok (.iaload, 1) := by decide +kernel
theorem dX8_looksForOwned_57 : decode cX8_looksForOwned 57 = .ok (.iadd, 1) := by decide +kernel
theorem dX8_looksForOwned_58 : decode cX8_looksForOwned 58 = .ok (.iaload, 1) := by decide +kernel
theorem dX8_looksForOwned_59 : decode cX8_looksForOwned 59 = .ok (.aload_n 0, 1) := by decide +kernel
theorem dX8_looksForOwned_60 : decode cX8_looksForOwned 60 = .ok (.getfield 7, 3) := by decide +kernel
theorem dX8_looksForOwned_63 : decode cX8_looksForOwned 63 = .ok (.bipush 22, 2) := by decide +kernel
theorem dX8_looksForOwned_65 : decode cX8_looksForOwned 65 = .ok (.iload_n 2, 1) := by decide +kernel
theorem dX8_looksForOwned_66 : decode cX8_looksForOwned 66 = .ok (.iadd, 1) := by decide +kernel
theorem dX8_looksForOwned_67 : decode cX8_looksForOwned 67 = .ok (.iaload, 1) := by decide +kernel
theorem dX8_looksForOwned_68 : decode cX8_looksForOwned 68 = .ok (.if_icmp .ge 23, 3) := by decide +kernel
theorem dX8_looksForOwned_71 : decode cX8_looksForOwned 71 = .ok (.aload_n 0, 1) := by decide +kernel
theorem dX8_looksForOwned_72 : decode cX8_looksForOwned 72 = .ok (.getfield 22, 3) := by decide +kernel
theorem dX8_looksForOwned_75 : decode cX8_looksForOwned 75 = .ok (.iload_n 3, 1) := by decide +kernel
theorem dX8_looksForOwned_76 : decode cX8_looksForOwned 76 = .ok (.aload_n 0, 1) := by decide +kernel
theorem dX8_looksForOwned_77 : decode cX8_looksForOwned 77 = .ok (.getfield 22, 3) := by decide +kernel
theorem dX8_looksForOwned_80 : decode cX8_looksForOwned 80 = .ok (.iload_n 3, 1) := by decide +kernel
theorem dX8_looksForOwned_81 : decode cX8_looksForOwned 81 = .ok (.iconst 1, 1) := by decide +kernel
theorem dX8_looksForOwned_82 : decode cX8_looksForOwned 82 = .ok (.isub, 1) := by decide +kernel
theorem dX8_looksForOwned_83 : decode cX8_looksForOwned 83 = .ok (.iaload, 1) := by decide +kernel
theorem dX8_looksForOwned_84 : decode cX8_looksForOwned 84 = .ok (.iastore, 1) := by decide +kernel
theorem dX8_looksForOwned_85 : decode cX8_looksForOwned 85 = .ok (.iinc 3 (-1), 3) := by decide +kernel
theorem dX8_looksForOwned_88 : decode cX8_looksForOwned 88 = .ok (.goto (-49), 3) := by decide +kernel
theorem dX8_looksForOwned_91 : decode cX8_looksForOwned 91 = .ok (.aload_n 0, 1) := by decide +kernel
theorem dX8_looksForOwned_92 : decode cX8_looksForOwned 92 = .ok (.getfield 22, 3) := by decide +kernel
theorem dX8_looksForOwned_95 : decode cX8_looksForOwned 95 = .ok (.iload_n 3, 1) := by decide +kernel
theorem dX8_looksForOwned_96 : decode cX8_looksForOwned 96 = .ok (.iload_n 2, 1) := by decide +kernel
theorem dX8_looksForOwned_97 : decode cX8_looksForOwned 97 = .ok (.iastore, 1) := by decide +kernel
theorem dX8_looksForOwned_98 : decode cX8_looksForOwned 98 = .ok (.aload_n 0, 1) := by decide +kernel
theorem dX8_looksForOwned_99 : decode cX8_looksForOwned 99 = .ok (.dup, 1) := by decide +kernel
theorem dX8_looksForOwned_100 : decode cX8_looksForOwned 100 = .ok (.getfield 139, 3) := by decide +kernel
theorem dX8_looksForOwned_103 : decode cX8_looksForOwned 103 = .ok (.iconst 1, 1) := by decide +kernel
theorem dX8_looksForOwned_104 : decode cX8_looksForOwned 104 = .ok (.iadd, 1) := by decide +kernel
theorem dX8_looksForOwned_105 : decode cX8_looksForOwned 105 = .ok (.putfield 139, 3) := by decide +kernel
theorem dX8_looksForOwned_108 : decode cX8_looksForOwned 108 = .ok (.iinc 2 1, 3) := by decide +kernel
theorem dX8_looksForOwned_111 : decode cX8_looksForOwned 111 = .ok (.goto (-104), 3) := by decide +kernel
theorem dX8_looksForOwned_114 : decode cX8_looksForOwned 114 = .ok (.return_, 1) := by decide +kernel
theorem dX8_countOf_0 : decode cX8_countOf 0 = .ok (.iconst 0, 1) := by decide +kernel
theorem dX8_countOf_1 : decode cX8_countOf 1 = .ok (.istore_n 2, 1) := by decide +kernel
theorem dX8_countOf_2 : decode cX8_countOf 2 = .ok (.iconst 0, 1) := by decide +kernel
theorem dX8_countOf_3 : decode cX8_countOf 3 = .ok (.istore_n 3, 1) := by decide +kernel
theorem dX8_countOf_4 : decode cX8_countOf 4 = .ok (.iload_n 3, 1) := by decide +kernel
theorem dX8_countOf_5 : decode cX8_countOf 5 = .ok (.bipush 8, 2) := by decide +kernel
theorem dX8_countOf_7 : decode cX8_countOf 7 = .ok (.if_icmp .ge 17, 3) := by decide +kernel
theorem dX8_countOf_10 : decode cX8_countOf 10 = .ok (.iload_n 2, 1) := by decide +kernel
theorem dX8_countOf_11 : decode cX8_countOf 11 = .ok (.iload_n 1, 1) := by decide +kernel
theorem dX8_countOf_12 : decode cX8_countOf 12 = .ok (.iload_n 3, 1) := by decide +kernel
theorem dX8_countOf_13 : decode cX8_countOf 13 = .ok (.ishr, 1) := by decide +kernel
theorem dX8_countOf_14 : decode cX8_countOf 14 = .ok (.iconst 1, 1) := by decide +kernel
theorem dX8_countOf_15 : decode cX8_countOf 15 = .ok (.iand, 1) := by decide +kernel
theorem dX8_countOf_16 : decode cX8_countOf 16 = .ok (.iadd, 1) := by decide +kernel
theorem dX8_countOf_17 : decode cX8_countOf 17 = .ok (.istore_n 2, 1) := by decide +kernel
theorem dX8_countOf_18 : decode cX8_countOf 18 = .ok (.iinc 3 1, 3) := by decide +kernel
theorem dX8_countOf_21 : decode cX8_countOf 21 = .ok (.goto (-17), 3) := by decide +kernel
theorem dX8_countOf_24 : decode cX8_countOf 24 = .ok (.iload_n 2, 1) := by decide +kernel
theorem dX8_countOf_25 : decode cX8_countOf 25 = .ok (.ireturn, 1) := by decide +kernel
set_option maxRecDepth 20000 in
theorem ggX8_looksForHolders_X8_counts : GoodIn wsX8_looksForHolders wsX8_counts := goodIn_r _ [10, 5, 4, 11, 12, 13, 9, 14, 15, 16, 17, 18, 19, 20, 21, 22, 23, 24, 25, 26, 27, 28, 29, 30, 31, 32, 45, 46, 47, 48, 49, 50, 51, 52, 53, 54, 55, 56, 57] (by decide +kernel) (by decide +kernel)
set_option maxRecDepth 20000 in
theorem gX8_looksForHolders_X8_counts : GoodIn wsX8_looksForHolders (wsV RX8 67 RX8 yX8_counts wsX8_counts) := goodIn_app (goodIn_of _ (by decide +kernel)) ggX8_looksForHolders_X8_counts
set_option maxRecDepth 20000 in
theorem ggX8_looksForHolders_X8_isLoose : GoodIn wsX8_looksForHolders wsX8_isLoose := goodIn_r _ [36, 4, 37, 38, 39, 9, 40, 11, 12, 13, 14, 15, 16, 17, 18, 19, 20, 21, 22, 23, 24, 25, 26, 27, 28, 29, 30, 31, 32, 45, 46, 47, 48, 49, 50, 51, 52, 53, 54, 55, 56, 57] (by decide +kernel) (by decide +kernel)
set_option maxRecDepth 20000 in
theorem gX8_looksForHolders_X8_isLoose : GoodIn wsX8_looksForHolders (wsV RX8 142 RX8 yX8_isLoose wsX8_isLoose) := goodIn_app (goodIn_of _ (by decide +kernel)) ggX8_looksForHolders_X8_isLoose
set_option maxRecDepth 20000 in
theorem ggX8_looksForHolders_X8_countOf : GoodIn wsX8_looksForHolders wsX8_countOf := goodIn_r _ [44] (by decide +kernel) (by decide +kernel)
set_option maxRecDepth 20000 in
theorem gX8_looksForHolders_X8_countOf : GoodIn wsX8_looksForHolders (wsV RX8 145 RX8 yX8_countOf wsX8_countOf) := goodIn_app (goodIn_of _ (by decide +kernel)) ggX8_looksForHolders_X8_countOf
theorem dX8_looksForHolders_0 : decode cX8_looksForHolders 0 = .ok (.aload_n 0, 1) := by decide +kernel
theorem dX8_looksForHolders_1 : decode cX8_looksForHolders 1 = .ok (.getfield 139, 3) := by decide +kernel
theorem dX8_looksForHolders_4 : decode cX8_looksForHolders 4 = .ok (.bipush 8, 2) := by decide +kernel
theorem dX8_looksForHolders_6 : decode cX8_looksForHolders 6 = .ok (.if_icmp .ge 10, 3) := by decide +kernel
theorem dX8_looksForHolders_9 : decode cX8_looksForHolders 9 = .ok (.aload_n 0, 1) := by decide +kernel
theorem dX8_looksForHolders_10 : decode cX8_looksForHolders 10 = .ok (.getfield 139, 3) := by decide +kernel
theorem dX8_looksForHolders_13 : decode cX8_looksForHolders 13 = .ok (.goto 5, 3) := by decide +kernel
theorem dX8_looksForHolders_16 : decode cX8_looksForHolders 16 = .ok (.bipush 8, 2) := by decide +kernel
theorem dX8_looksForHolders_18 : decode cX8_looksForHolders 18 = .ok (.istore_n 1, 1) := by decide +kernel
theorem dX8_looksForHolders_19 : decode cX8_looksForHolders 19 = .ok (.iconst 0, 1) := by decide +kernel
theorem dX8_looksForHolders_20 : decode cX8_looksForHolders 20 = .ok (.istore_n 2, 1) := by decide +kernel
theorem dX8_looksForHolders_21 : decode cX8_looksForHolders 21 = .ok (.aload_n 0, 1) := by decide +kernel
theorem dX8_looksForHolders_22 : decode cX8_looksForHolders 22 = .ok (.invokevirtual 67, 3) := by decide +kernel
theorem dX8_looksForHolders_25 : decode cX8_looksForHolders 25 = .ok (.iconst 0, 1) := by decide +kernel
theorem dX8_looksForHolders_26 : decode cX8_looksForHolders 26 = .ok (.istore_n 3, 1) := by decide +kernel
theorem dX8_looksForHolders_27 : decode cX8_looksForHolders 27 = .ok (.iload_n 3, 1) := by decide +kernel
theorem dX8_looksForHolders_28 : decode cX8_looksForHolders 28 = .ok (.bipush 96, 2) := by decide +kernel
theorem dX8_looksForHolders_30 : decode cX8_looksForHolders 30 = .ok (.if_icmp .ge 16, 3) := by decide +kernel
theorem dX8_looksForHolders_33 : decode cX8_looksForHolders 33 = .ok (.aload_n 0, 1) := by decide +kernel
theorem dX8_looksForHolders_34 : decode cX8_looksForHolders 34 = .ok (.getfield 25, 3) := by decide +kernel
theorem dX8_looksForHolders_37 : decode cX8_looksForHolders 37 = .ok (.iload_n 3, 1) := by decide +kernel
theorem dX8_looksForHolders_38 : decode cX8_looksForHolders 38 = .ok (.iconst 0, 1) := by decide +kernel
theorem dX8_looksForHolders_39 : decode cX8_looksForHolders 39 = .ok (.iastore, 1) := by decide +kernel
theorem dX8_looksForHolders_40 : decode cX8_looksForHolders 40 = .ok (.iinc 3 1, 3) := by decide +kernel
theorem dX8_looksForHolders_43 : decode cX8_looksForHolders 43 = .ok (.goto (-16), 3) := by decide +kernel
theorem dX8_looksForHolders_46 : decode cX8_looksForHolders 46 = .ok (.iconst 0, 1) := by decide +kernel
theorem dX8_looksForHolders_47 : decode cX8_looksForHolders 47 = .ok (.istore_n 3, 1) := by decide +kernel
theorem dX8_looksForHolders_48 : decode cX8_looksForHolders 48 = .ok (.iload_n 3, 1) := by decide +kernel
theorem dX8_looksForHolders_49 : decode cX8_looksForHolders 49 = .ok (.iload_n 1, 1) := by decide +kernel
theorem dX8_looksForHolders_50 : decode cX8_looksForHolders 50 = .ok (.if_icmp .ge 99, 3) := by decide +kernel
theorem dX8_looksForHolders_53 : decode cX8_looksForHolders 53 = .ok (.aload_n 0, 1) := by decide +kernel
theorem dX8_looksForHolders_54 : decode cX8_looksForHolders 54 = .ok (.getfield 22, 3) := by decide +kernel
theorem dX8_looksForHolders_57 : decode cX8_looksForHolders 57 = .ok (.iload_n 3, 1) := by decide +kernel
theorem dX8_looksForHolders_58 : decode cX8_looksForHolders 58 = .ok (.iaload, 1) := by decide +kernel
theorem dX8_looksForHolders_59 : decode cX8_looksForHolders 59 = .ok (.istore 4, 2) := by decide +kernel
theorem dX8_looksForHolders_61 : decode cX8_looksForHolders 61 = .ok (.iload_n 2, 1) := by decide +kernel
theorem dX8_looksForHolders_62 : decode cX8_looksForHolders 62 = .ok (.aload_n 0, 1) := by decide +kernel
theorem dX8_looksForHolders_63 : decode cX8_looksForHolders 63 = .ok (.iload 4, 2) := by decide +kernel
theorem dX8_looksForHolders_65 : decode cX8_looksForHolders 65 = .ok (.invokevirtual 142, 3) := by decide +kernel
theorem dX8_looksForHolders_68 : decode cX8_looksForHolders 68 = .ok (.ifCond .eq 9, 3) := by decide +kernel
theorem dX8_looksForHolders_71 : decode cX8_looksForHolders 71 = .ok (.iconst 1, 1) := by decide +kernel
theorem dX8_looksForHolders_72 : decode cX8_looksForHolders 72 = .ok (.iload_n 3, 1) := by decide +kernel
theorem dX8_looksForHolders_73 : decode cX8_looksForHolders 73 = .ok (.ishl, 1) := by decide +kernel
theorem dX8_looksForHolders_74 : decode cX8_looksForHolders 74 = .ok (.goto 4, 3) := by decide +kernel
theorem dX8_looksForHolders_77 : decode cX8_looksForHolders 77 = .ok (.iconst 0, 1) := by decide +kernel
theorem dX8_looksForHolders_78 : decode cX8_looksForHolders 78 = .ok (.ior, 1) := by decide +kernel
theorem dX8_looksForHolders_79 : decode cX8_looksForHolders 79 = .ok (.istore_n 2, 1) := by decide +kernel
theorem dX8_looksForHolders_80 : decode cX8_looksForHolders 80 = .ok (.iconst 0, 1) := by decide +kernel
theorem dX8_looksForHolders_81 : decode cX8_looksForHolders 81 = .ok (.istore 5, 2) := by decide +kernel
theorem dX8_looksForHolders_83 : decode cX8_looksForHolders 83 = .ok (.iload 5, 2) := by decide +kernel
theorem dX8_looksForHolders_85 : decode cX8_looksForHolders 85 = .ok (.bipush 12, 2) := by decide +kernel
theorem dX8_looksForHolders_87 : decode cX8_looksForHolders 87 = .ok (.if_icmp .ge 56, 3) := by decide +kernel
theorem dX8_looksForHolders_90 : decode cX8_looksForHolders 90 = .ok (.aload_n 0, 1) := by decide +kernel
theorem dX8_looksForHolders_91 : decode cX8_looksForHolders 91 = .ok (.getfield 7, 3) := by decide +kernel
theorem dX8_looksForHolders_94 : decode cX8_looksForHolders 94 = .ok (.bipush 122, 2) := by decide +kernel
theorem dX8_looksForHolders_96 : decode cX8_looksForHolders 96 = .ok (.bipush 12, 2) := by decide +kernel
theorem dX8_looksForHolders_98 : decode cX8_looksForHolders 98 = .ok (.iload 4, 2) := by decide +kernel
theorem dX8_looksForHolders_100 : decode cX8_looksForHolders 100 = .ok (.imul, 1) := by decide +kernel
theorem dX8_looksForHolders_101 : decode cX8_looksForHolders 101 = .ok (.iadd, 1) := by decide +kernel
theorem dX8_looksForHolders_102 : decode cX8_looksForHolders 102 = .ok (.iload 5, 2) := by decide +kernel
theorem dX8_looksForHolders_104 : decode cX8_looksForHolders 104 = .ok (.iadd, 1) := by decide +kernel
theorem dX8_looksForHolders_105 : decode cX8_looksForHolders 105 = .ok (.iaload, 1) := by decide +kernel
theorem dX8_looksForHolders_106 : decode cX8_looksForHolders 106 = .ok (.iconst (-1), 1) := by decide +kernel
theorem dX8_looksForHolders_107 : decode cX8_looksForHolders 107 = .ok (.if_icmp .eq 30, 3) := by decide +kernel
theorem dX8_looksForHolders_110 : decode cX8_looksForHolders 110 = .ok (.aload_n 0, 1) := by decide +kernel
theorem dX8_looksForHolders_111 : decode cX8_looksForHolders 111 = .ok (.getfield 25, 3) := by decide +kernel
theorem dX8_looksForHolders_114 : decode cX8_looksForHolders 114 = .ok (.aload_n 0, 1) := by decide +kernel
theorem dX8_looksForHolders_115 : decode cX8_looksForHolders 115 = .ok (.getfield 7, 3) := by decide +kernel
theorem dX8_looksForHolders_118 : decode cX8_looksForHolders 118 = .ok (.bipush 122, 2) := by decide +kernel
theorem dX8_looksForHolders_120 : decode cX8_looksForHolders 120 = .ok (.bipush 12, 2) := by decide +kernel
theorem dX8_looksForHolders_122 : decode cX8_looksForHolders 122 = .ok (.iload 4, 2) := by decide +kernel
theorem dX8_looksForHolders_124 : decode cX8_looksForHolders 124 = .ok (.imul, 1) := by decide +kernel
theorem dX8_looksForHolders_125 : decode cX8_looksForHolders 125 = .ok (.iadd, 1) := by decide +kernel
theorem dX8_looksForHolders_126 : decode cX8_looksForHolders 126 = .ok (.iload 5, 2) := by decide +kernel
theorem dX8_looksForHolders_128 : decode cX8_looksForHolders 128 = .ok (.iadd, 1) := by decide +kernel
theorem dX8_looksForHolders_129 : decode cX8_looksForHolders 129 = .ok (.iaload, 1) := by decide +kernel
theorem dX8_looksForHolders_130 : decode cX8_looksForHolders 130 = .ok (.dup2, 1) := by decide +kernel
theorem dX8_looksForHolders_131 : decode cX8_looksForHolders 131 = .ok (.iaload, 1) := by decide +kernel
theorem dX8_looksForHolders_132 : decode cX8_looksForHolders 132 = .ok (.iconst 1, 1) := by decide +kernel
theorem dX8_looksForHolders_133 : decode cX8_looksForHolders 133 = .ok (.iload_n 3, 1) := by decide +kernel
theorem dX8_looksForHolders_134 : decode cX8_looksForHolders 134 = .ok (.ishl, 1) := by decide +kernel
theorem dX8_looksForHolders_135 : decode cX8_looksForHolders 135 = .ok (.ior, 1) := by decide +kernel
theorem dX8_looksForHolders_136 : decode cX8_looksForHolders 136 = .ok (.iastore, 1) := by decide +kernel
theorem dX8_looksForHolders_137 : decode cX8_looksForHolders 137 = .ok (.iinc 5 1, 3) := by decide +kernel
theorem dX8_looksForHolders_140 : decode cX8_looksForHolders 140 = .ok (.goto (-57), 3) := by decide +kernel
theorem dX8_looksForHolders_143 : decode cX8_looksForHolders 143 = .ok (.iinc 3 1, 3) := by decide +kernel
theorem dX8_looksForHolders_146 : decode cX8_looksForHolders 146 = .ok (.goto (-98), 3) := by decide +kernel
theorem dX8_looksForHolders_149 : decode cX8_looksForHolders 149 = .ok (.iconst 0, 1) := by decide +kernel
theorem dX8_looksForHolders_150 : decode cX8_looksForHolders 150 = .ok (.istore_n 3, 1) := by decide +kernel
theorem dX8_looksForHolders_151 : decode cX8_looksForHolders 151 = .ok (.iload_n 3, 1) := by decide +kernel
theorem dX8_looksForHolders_152 : decode cX8_looksForHolders 152 = .ok (.bipush 96, 2) := by decide +kernel
theorem dX8_looksForHolders_154 : decode cX8_looksForHolders 154 = .ok (.if_icmp .ge 44, 3) := by decide +kernel
theorem dX8_looksForHolders_157 : decode cX8_looksForHolders 157 = .ok (.aload_n 0, 1) := by decide +kernel
theorem dX8_looksForHolders_158 : decode cX8_looksForHolders 158 = .ok (.getfield 25, 3) := by decide +kernel
theorem dX8_looksForHolders_161 : decode cX8_looksForHolders 161 = .ok (.iload_n 3, 1) := by decide +kernel
theorem dX8_looksForHolders_162 : decode cX8_looksForHolders 162 = .ok (.aload_n 0, 1) := by decide +kernel
theorem dX8_looksForHolders_163 : decode cX8_looksForHolders 163 = .ok (.aload_n 0, 1) := by decide +kernel
theorem dX8_looksForHolders_164 : decode cX8_looksForHolders 164 = .ok (.getfield 25, 3) := by decide +kernel
theorem dX8_looksForHolders_167 : decode cX8_looksForHolders 167 = .ok (.iload_n 3, 1) := by decide +kernel
theorem dX8_looksForHolders_168 : decode cX8_looksForHolders 168 = .ok (.iaload, 1) := by decide +kernel
theorem dX8_looksForHolders_169 : decode cX8_looksForHolders 169 = .ok (.invokevirtual 145, 3) := by decide +kernel
theorem dX8_looksForHolders_172 : decode cX8_looksForHolders 172 = .ok (.aload_n 0, 1) := by decide +kernel
theorem dX8_looksForHolders_173 : decode cX8_looksForHolders 173 = .ok (.getfield 19, 3) := by decide +kernel
theorem dX8_looksForHolders_176 : decode cX8_looksForHolders 176 = .ok (.iload_n 3, 1) := by decide +kernel
theorem dX8_looksForHolders_177 : decode cX8_looksForHolders 177 = .ok (.iaload, 1) := by decide +kernel
theorem dX8_looksForHolders_178 : decode cX8_looksForHolders 178 = .ok (.if_icmp .ne 12, 3) := by decide +kernel
theorem dX8_looksForHolders_181 : decode cX8_looksForHolders 181 = .ok (.aload_n 0, 1) := by decide +kernel
theorem dX8_looksForHolders_182 : decode cX8_looksForHolders 182 = .ok (.getfield 25, 3) := by decide +kernel
theorem dX8_looksForHolders_185 : decode cX8_looksForHolders 185 = .ok (.iload_n 3, 1) := by decide +kernel
theorem dX8_looksForHolders_186 : decode cX8_looksForHolders 186 = .ok (.iaload, 1) := by decide +kernel
theorem dX8_looksForHolders_187 : decode cX8_looksForHolders 187 = .ok (.goto 4, 3) := by decide +kernel
theorem dX8_looksForHolders_190 : decode cX8_looksForHolders 190 = .ok (.iconst 0, 1) := by decide +kernel
theorem dX8_looksForHolders_191 : decode cX8_looksForHolders 191 = .ok (.iastore, 1) := by decide +kernel
theorem dX8_looksForHolders_192 : decode cX8_looksForHolders 192 = .ok (.iinc 3 1, 3) := by decide +kernel
theorem dX8_looksForHolders_195 : decode cX8_looksForHolders 195 = .ok (.goto (-44), 3) := by decide +kernel
theorem dX8_looksForHolders_198 : decode cX8_looksForHolders 198 = .ok (.iload_n 2, 1) := by decide +kernel
theorem dX8_looksForHolders_199 : decode cX8_looksForHolders 199 = .ok (.ireturn, 1) := by decide +kernel
theorem dX8_freedBy_0 : decode cX8_freedBy 0 = .ok (.lconst 0, 1) := by decide +kernel
theorem dX8_freedBy_1 : decode cX8_freedBy 1 = .ok (.lstore_n 2, 1) := by decide +kernel
theorem dX8_freedBy_2 : decode cX8_freedBy 2 = .ok (.iconst 0, 1) := by decide +kernel
theorem dX8_freedBy_3 : decode cX8_freedBy 3 = .ok (.istore 4, 2) := by decide +kernel
theorem dX8_freedBy_5 : decode cX8_freedBy 5 = .ok (.iload 4, 2) := by decide +kernel
theorem dX8_freedBy_7 : decode cX8_freedBy 7 = .ok (.bipush 96, 2) := by decide +kernel
theorem dX8_freedBy_9 : decode cX8_freedBy 9 = .ok (.if_icmp .ge 52, 3) := by decide +kernel
theorem dX8_freedBy_12 : decode cX8_freedBy 12 = .ok (.lload_n 2, 1) := by decide +kernel
theorem dX8_freedBy_13 : decode cX8_freedBy 13 = .ok (.aload_n 0, 1) := by decide +kernel
theorem dX8_freedBy_14 : decode cX8_freedBy 14 = .ok (.getfield 25, 3) := by decide +kernel
theorem dX8_freedBy_17 : decode cX8_freedBy 17 = .ok (.iload 4, 2) := by decide +kernel
theorem dX8_freedBy_19 : decode cX8_freedBy 19 = .ok (.iaload, 1) := by decide +kernel
theorem dX8_freedBy_20 : decode cX8_freedBy 20 = .ok (.ifCond .eq 32, 3) := by decide +kernel
theorem dX8_freedBy_23 : decode cX8_freedBy 23 = .ok (.aload_n 0, 1) := by decide +kernel
theorem dX8_freedBy_24 : decode cX8_freedBy 24 = .ok (.getfield 25, 3) := by decide +kernel
theorem dX8_freedBy_27 : decode cX8_freedBy 27 = .ok (.iload 4, 2) := by decide +kernel
theorem dX8_freedBy_29 : decode cX8_freedBy 29 = .ok (.iaload, 1) := by decide +kernel
theorem dX8_freedBy_30 : decode cX8_freedBy 30 = .ok (.iload_n 1, 1) := by decide +kernel
theorem dX8_freedBy_31 : decode cX8_freedBy 31 = .ok (.iconst (-1), 1) := by decide +kernel
theorem dX8_freedBy_32 : decode cX8_freedBy 32 = .ok (.ixor, 1) := by decide +kernel
theorem dX8_freedBy_33 : decode cX8_freedBy 33 = .ok (.iand, 1) := by decide +kernel
theorem dX8_freedBy_34 : decode cX8_freedBy 34 = .ok (.ifCond .ne 18, 3) := by decide +kernel
theorem dX8_freedBy_37 : decode cX8_freedBy 37 = .ok (.aload_n 0, 1) := by decide +kernel
theorem dX8_freedBy_38 : decode cX8_freedBy 38 = .ok (.getfield 7, 3) := by decide +kernel
theorem dX8_freedBy_41 : decode cX8_freedBy 41 = .ok (.sipush 362, 3) := by decide +kernel
theorem dX8_freedBy_44 : decode cX8_freedBy 44 = .ok (.iload 4, 2) := by decide +kernel
theorem dX8_freedBy_46 : decode cX8_freedBy 46 = .ok (.iadd, 1) := by decide +kernel
theorem dX8_freedBy_47 : decode cX8_freedBy 47 = .ok (.iaload, 1) := by decide +kernel
theorem dX8_freedBy_48 : decode cX8_freedBy 48 = .ok (.i2l, 1) := by decide +kernel
theorem dX8_freedBy_49 : decode cX8_freedBy 49 = .ok (.goto 4, 3) := by decide +kernel
theorem dX8_freedBy_52 : decode cX8_freedBy 52 = .ok (.lconst 0, 1) := by decide +kernel
theorem dX8_freedBy_53 : decode cX8_freedBy 53 = .ok (.ladd, 1) := by decide +kernel
theorem dX8_freedBy_54 : decode cX8_freedBy 54 = .ok (.lstore_n 2, 1) := by decide +kernel
theorem dX8_freedBy_55 : decode cX8_freedBy 55 = .ok (.iinc 4 1, 3) := by decide +kernel
theorem dX8_freedBy_58 : decode cX8_freedBy 58 = .ok (.goto (-53), 3) := by decide +kernel
theorem dX8_freedBy_61 : decode cX8_freedBy 61 = .ok (.lload_n 2, 1) := by decide +kernel
theorem dX8_freedBy_62 : decode cX8_freedBy 62 = .ok (.lreturn, 1) := by decide +kernel
set_option maxRecDepth 20000 in
theorem ggX8_most_X8_in : GoodIn wsX8_most wsX8_in := goodIn_r _ [5] (by decide +kernel) (by decide +kernel)
set_option maxRecDepth 20000 in
theorem gX8_most_X8_in : GoodIn wsX8_most (va_wsS RX8 42 yX8_in wsX8_in) := goodIn_app (goodIn_of _ (by decide +kernel)) ggX8_most_X8_in
set_option maxRecDepth 20000 in
theorem ggX8_most_X8_isFiles : GoodIn wsX8_most wsX8_isFiles := goodIn_r _ [9, 10, 11, 12, 13, 4, 14, 2, 3, 5, 15, 16, 17, 58, 59, 60, 61, 62, 63, 64, 65, 66, 67, 68, 69, 70] (by decide +kernel) (by decide +kernel)
set_option maxRecDepth 20000 in
theorem gX8_most_X8_isFiles : GoodIn wsX8_most (wsV RX8 54 RX8 yX8_isFiles wsX8_isFiles) := goodIn_app (goodIn_of _ (by decide +kernel)) ggX8_most_X8_isFiles
set_option maxRecDepth 20000 in
theorem ggX8_most_X8_looksForOwned : GoodIn wsX8_most wsX8_looksForOwned := goodIn_r _ [21, 22, 10, 23, 24, 25, 26, 4, 27, 11, 12, 13, 14, 2, 3, 5, 15, 16, 17, 58, 59, 60, 61, 62, 63, 64, 65, 66, 67, 68, 69, 70] (by decide +kernel) (by decide +kernel)
set_option maxRecDepth 20000 in
theorem gX8_most_X8_looksForOwned : GoodIn wsX8_most (wsV RX8 148 RX8 yX8_looksForOwned wsX8_looksForOwned) := goodIn_app (goodIn_of _ (by decide +kernel)) ggX8_most_X8_looksForOwned
set_option maxRecDepth 20000 in
theorem ggX8_most_X8_looksForHolders : GoodIn wsX8_most wsX8_looksForHolders := goodIn_r _ [31, 22, 32, 23, 10, 33, 34, 35, 36, 4, 37, 38, 39, 40, 41, 6, 7, 8, 9, 11, 12, 13, 14, 2, 3, 5, 15, 16, 17, 24, 25, 26, 27, 42, 43, 44, 45, 46, 47, 48, 49, 50, 51, 52, 53, 58, 59, 60, 61, 62, 63, 64, 65, 66, 67, 68, 69, 70] (by decide +kernel) (by decide +kernel)
set_option maxRecDepth 20000 in
theorem gX8_most_X8_looksForHolders : GoodIn wsX8_most (wsV RX8 152 RX8 yX8_looksForHolders wsX8_looksForHolders) := goodIn_app (goodIn_of _ (by decide +kernel)) ggX8_most_X8_looksForHolders
set_option maxRecDepth 20000 in
theorem ggX8_most_X8_countOf : GoodIn wsX8_most wsX8_countOf := goodIn_r _ [53] (by decide +kernel) (by decide +kernel)
set_option maxRecDepth 20000 in
theorem gX8_most_X8_countOf : GoodIn wsX8_most (wsV RX8 145 RX8 yX8_countOf wsX8_countOf) := goodIn_app (goodIn_of _ (by decide +kernel)) ggX8_most_X8_countOf
set_option maxRecDepth 20000 in
theorem ggX8_most_X8_freedBy : GoodIn wsX8_most wsX8_freedBy := goodIn_r _ [57, 32, 10, 58, 59, 60, 61, 62, 63, 64, 65, 66, 67, 68, 69, 70] (by decide +kernel) (by decide +kernel)
set_option maxRecDepth 20000 in
theorem gX8_most_X8_freedBy : GoodIn wsX8_most (wsV RX8 155 RX8 yX8_freedBy wsX8_freedBy) := goodIn_app (goodIn_of _ (by decide +kernel)) ggX8_most_X8_freedBy
theorem dX8_most_0 : decode cX8_most 0 = .ok (.iload_n 2, 1) := by decide +kernel
theorem dX8_most_1 : decode cX8_most 1 = .ok (.iconst 0, 1) := by decide +kernel
theorem dX8_most_2 : decode cX8_most 2 = .ok (.bipush 8, 2) := by decide +kernel
theorem dX8_most_4 : decode cX8_most 4 = .ok (.invokestatic 42, 3) := by decide +kernel
theorem dX8_most_7 : decode cX8_most 7 = .ok (.ifCond .eq 11, 3) := by decide +kernel
theorem dX8_most_10 : decode cX8_most 10 = .ok (.aload_n 0, 1) := by decide +kernel
theorem dX8_most_11 : decode cX8_most 11 = .ok (.iload_n 1, 1) := by decide +kernel
theorem dX8_most_12 : decode cX8_most 12 = .ok (.invokevirtual 54, 3) := by decide +kernel
theorem dX8_most_15 : decode cX8_most 15 = .ok (.ifCond .ne 7, 3) := by decide +kernel
theorem dX8_most_18 : decode cX8_most 18 = .ok (.ldc2_w 134, 3) := by decide +kernel
theorem dX8_most_21 : decode cX8_most 21 = .ok (.lreturn, 1) := by decide +kernel
theorem dX8_most_22 : decode cX8_most 22 = .ok (.aload_n 0, 1) := by decide +kernel
theorem dX8_most_23 : decode cX8_most 23 = .ok (.iload_n 1, 1) := by decide +kernel
theorem dX8_most_24 : decode cX8_most 24 = .ok (.invokevirtual 148, 3) := by decide +kernel
theorem dX8_most_27 : decode cX8_most 27 = .ok (.aload_n 0, 1) := by decide +kernel
theorem dX8_most_28 : decode cX8_most 28 = .ok (.invokevirtual 152, 3) := by decide +kernel
theorem dX8_most_31 : decode cX8_most 31 = .ok (.istore_n 3, 1) := by decide +kernel
theorem dX8_most_32 : decode cX8_most 32 = .ok (.lconst 0, 1) := by decide +kernel
theorem dX8_most_33 : decode cX8_most 33 = .ok (.lstore 4, 2) := by decide +kernel
theorem dX8_most_35 : decode cX8_most 35 = .ok (.iconst 0, 1) := by decide +kernel
theorem dX8_most_36 : decode cX8_most 36 = .ok (.istore 6, 2) := by decide +kernel
theorem dX8_most_38 : decode cX8_most 38 = .ok (.iload 6, 2) := by decide +kernel
theorem dX8_most_40 : decode cX8_most 40 = .ok (.sipush 256, 3) := by decide +kernel
theorem dX8_most_43 : decode cX8_most 43 = .ok (.if_icmp .ge 53, 3) := by decide +kernel
theorem dX8_most_46 : decode cX8_most 46 = .ok (.iload 6, 2) := by decide +kernel
theorem dX8_most_48 : decode cX8_most 48 = .ok (.iload_n 3, 1) := by decide +kernel
theorem dX8_most_49 : decode cX8_most 49 = .ok (.iconst (-1), 1) := by decide +kernel
theorem dX8_most_50 : decode cX8_most 50 = .ok (.ixor, 1) := by decide +kernel
theorem dX8_most_51 : decode cX8_most 51 = .ok (.iand, 1) := by decide +kernel
theorem dX8_most_52 : decode cX8_most 52 = .ok (.ifCond .ne 38, 3) := by decide +kernel
theorem dX8_most_55 : decode cX8_most 55 = .ok (.aload_n 0, 1) := by decide +kernel
theorem dX8_most_56 : decode cX8_most 56 = .ok (.iload 6, 2) := by decide +kernel
theorem dX8_most_58 : decode cX8_most 58 = .ok (.invokevirtual 145, 3) := by decide +kernel
theorem dX8_most_61 : decode cX8_most 61 = .ok (.iload_n 2, 1) := by decide +kernel
theorem dX8_most_62 : decode cX8_most 62 = .ok (.if_icmp .gt 28, 3) := by decide +kernel
theorem dX8_most_65 : decode cX8_most 65 = .ok (.aload_n 0, 1) := by decide +kernel
theorem dX8_most_66 : decode cX8_most 66 = .ok (.iload 6, 2) := by decide +kernel
theorem dX8_most_68 : decode cX8_most 68 = .ok (.invokevirtual 155, 3) := by decide +kernel
theorem dX8_most_71 : decode cX8_most 71 = .ok (.lstore 7, 2) := by decide +kernel
theorem dX8_most_73 : decode cX8_most 73 = .ok (.lload 7, 2) := by decide +kernel
theorem dX8_most_75 : decode cX8_most 75 = .ok (.lload 4, 2) := by decide +kernel
theorem dX8_most_77 : decode cX8_most 77 = .ok (.lcmp, 1) := by decide +kernel
theorem dX8_most_78 : decode cX8_most 78 = .ok (.ifCond .le 8, 3) := by decide +kernel
theorem dX8_most_81 : decode cX8_most 81 = .ok (.lload 7, 2) := by decide +kernel
theorem dX8_most_83 : decode cX8_most 83 = .ok (.goto 5, 3) := by decide +kernel
theorem dX8_most_86 : decode cX8_most 86 = .ok (.lload 4, 2) := by decide +kernel
theorem dX8_most_88 : decode cX8_most 88 = .ok (.lstore 4, 2) := by decide +kernel
theorem dX8_most_90 : decode cX8_most 90 = .ok (.iinc 6 1, 3) := by decide +kernel
theorem dX8_most_93 : decode cX8_most 93 = .ok (.goto (-55), 3) := by decide +kernel
theorem dX8_most_96 : decode cX8_most 96 = .ok (.lload 4, 2) := by decide +kernel
theorem dX8_most_98 : decode cX8_most 98 = .ok (.lreturn, 1) := by decide +kernel
set_option maxRecDepth 20000 in
theorem ggX8_fewest_X8_asked : GoodIn wsX8_fewest wsX8_asked := goodIn_r _ [5, 6, 7, 8, 9, 4, 10, 11, 12, 13, 14, 15, 16, 17, 18, 19, 20, 65, 66, 67, 68, 69, 70, 71, 72, 73, 74, 75, 76, 77] (by decide +kernel) (by decide +kernel)
set_option maxRecDepth 20000 in
theorem gX8_fewest_X8_asked : GoodIn wsX8_fewest (wsV RX8 92 RX8 yX8_asked wsX8_asked) := goodIn_app (goodIn_of _ (by decide +kernel)) ggX8_fewest_X8_asked
set_option maxRecDepth 20000 in
theorem ggX8_fewest_X8_looksForOwned : GoodIn wsX8_fewest wsX8_looksForOwned := goodIn_r _ [24, 25, 6, 26, 27, 28, 29, 4, 30, 14, 15, 16, 17, 11, 12, 13, 18, 19, 20, 65, 66, 67, 68, 69, 70, 71, 72, 73, 74, 75, 76, 77] (by decide +kernel) (by decide +kernel)
set_option maxRecDepth 20000 in
theorem gX8_fewest_X8_looksForOwned : GoodIn wsX8_fewest (wsV RX8 148 RX8 yX8_looksForOwned wsX8_looksForOwned) := goodIn_app (goodIn_of _ (by decide +kernel)) ggX8_fewest_X8_looksForOwned
set_option maxRecDepth 20000 in
theorem ggX8_fewest_X8_looksForHolders : GoodIn wsX8_fewest wsX8_looksForHolders := goodIn_r _ [34, 25, 35, 26, 6, 36, 37, 38, 39, 4, 40, 41, 42, 43, 44, 45, 46, 47, 48, 14, 15, 16, 17, 11, 12, 13, 18, 19, 20, 27, 28, 29, 30, 49, 50, 51, 52, 53, 54, 55, 56, 57, 58, 59, 60, 65, 66, 67, 68, 69, 70, 71, 72, 73, 74, 75, 76, 77] (by decide +kernel) (by decide +kernel)
set_option maxRecDepth 20000 in
theorem gX8_fewest_X8_looksForHolders : GoodIn wsX8_fewest (wsV RX8 152 RX8 yX8_looksForHolders wsX8_looksForHolders) := goodIn_app (goodIn_of _ (by decide +kernel)) ggX8_fewest_X8_looksForHolders
set_option maxRecDepth 20000 in
theorem ggX8_fewest_X8_countOf : GoodIn wsX8_fewest wsX8_countOf := goodIn_r _ [60] (by decide +kernel) (by decide +kernel)
set_option maxRecDepth 20000 in
theorem gX8_fewest_X8_countOf : GoodIn wsX8_fewest (wsV RX8 145 RX8 yX8_countOf wsX8_countOf) := goodIn_app (goodIn_of _ (by decide +kernel)) ggX8_fewest_X8_countOf
set_option maxRecDepth 20000 in
theorem ggX8_fewest_X8_freedBy : GoodIn wsX8_fewest wsX8_freedBy := goodIn_r _ [64, 35, 6, 65, 66, 67, 68, 69, 70, 71, 72, 73, 74, 75, 76, 77] (by decide +kernel) (by decide +kernel)
set_option maxRecDepth 20000 in
theorem gX8_fewest_X8_freedBy : GoodIn wsX8_fewest (wsV RX8 155 RX8 yX8_freedBy wsX8_freedBy) := goodIn_app (goodIn_of _ (by decide +kernel)) ggX8_fewest_X8_freedBy
theorem dX8_fewest_0 : decode cX8_fewest 0 = .ok (.aload_n 0, 1) := by decide +kernel
theorem dX8_fewest_1 : decode cX8_fewest 1 = .ok (.iload_n 1, 1) := by decide +kernel
theorem dX8_fewest_2 : decode cX8_fewest 2 = .ok (.iconst 0, 1) := by decide +kernel
theorem dX8_fewest_3 : decode cX8_fewest 3 = .ok (.invokevirtual 92, 3) := by decide +kernel
theorem dX8_fewest_6 : decode cX8_fewest 6 = .ok (.istore 4, 2) := by decide +kernel
theorem dX8_fewest_8 : decode cX8_fewest 8 = .ok (.iload 4, 2) := by decide +kernel
theorem dX8_fewest_10 : decode cX8_fewest 10 = .ok (.ifCond .eq 6, 3) := by decide +kernel
theorem dX8_fewest_13 : decode cX8_fewest 13 = .ok (.iload 4, 2) := by decide +kernel
theorem dX8_fewest_15 : decode cX8_fewest 15 = .ok (.ireturn, 1) := by decide +kernel
theorem dX8_fewest_16 : decode cX8_fewest 16 = .ok (.lload_n 2, 1) := by decide +kernel
theorem dX8_fewest_17 : decode cX8_fewest 17 = .ok (.lconst 0, 1) := by decide +kernel
theorem dX8_fewest_18 : decode cX8_fewest 18 = .ok (.lcmp, 1) := by decide +kernel
theorem dX8_fewest_19 : decode cX8_fewest 19 = .ok (.ifCond .gt 5, 3) := by decide +kernel
theorem dX8_fewest_22 : decode cX8_fewest 22 = .ok (.iconst 0, 1) := by decide +kernel
theorem dX8_fewest_23 : decode cX8_fewest 23 = .ok (.ireturn, 1) := by decide +kernel
theorem dX8_fewest_24 : decode cX8_fewest 24 = .ok (.aload_n 0, 1) := by decide +kernel
theorem dX8_fewest_25 : decode cX8_fewest 25 = .ok (.iload_n 1, 1) := by decide +kernel
theorem dX8_fewest_26 : decode cX8_fewest 26 = .ok (.invokevirtual 148, 3) := by decide +kernel
theorem dX8_fewest_29 : decode cX8_fewest 29 = .ok (.aload_n 0, 1) := by decide +kernel
theorem dX8_fewest_30 : decode cX8_fewest 30 = .ok (.invokevirtual 152, 3) := by decide +kernel
theorem dX8_fewest_33 : decode cX8_fewest 33 = .ok (.istore 5, 2) := by decide +kernel
theorem dX8_fewest_35 : decode cX8_fewest 35 = .ok (.iconst (-1), 1) := by decide +kernel
theorem dX8_fewest_36 : decode cX8_fewest 36 = .ok (.istore 6, 2) := by decide +kernel
theorem dX8_fewest_38 : decode cX8_fewest 38 = .ok (.iconst 0, 1) := by decide +kernel
theorem dX8_fewest_39 : decode cX8_fewest 39 = .ok (.istore 7, 2) := by decide +kernel
theorem dX8_fewest_41 : decode cX8_fewest 41 = .ok (.iload 7, 2) := by decide +kernel
theorem dX8_fewest_43 : decode cX8_fewest 43 = .ok (.sipush 256, 3) := by decide +kernel
theorem dX8_fewest_46 : decode cX8_fewest 46 = .ok (.if_icmp .ge 72, 3) := by decide +kernel
theorem dX8_fewest_49 : decode cX8_fewest 49 = .ok (.iload 6, 2) := by decide +kernel
theorem dX8_fewest_51 : decode cX8_fewest 51 = .ok (.iconst (-1), 1) := by decide +kernel
theorem dX8_fewest_52 : decode cX8_fewest 52 = .ok (.if_icmp .eq 14, 3) := by decide +kernel
theorem dX8_fewest_55 : decode cX8_fewest 55 = .ok (.aload_n 0, 1) := by decide +kernel
theorem dX8_fewest_56 : decode cX8_fewest 56 = .ok (.iload 7, 2) := by decide +kernel
theorem dX8_fewest_58 : decode cX8_fewest 58 = .ok (.invokevirtual 145, 3) := by decide +kernel
theorem dX8_fewest_61 : decode cX8_fewest 61 = .ok (.iload 6, 2) := by decide +kernel
theorem dX8_fewest_63 : decode cX8_fewest 63 = .ok (.if_icmp .ge 7, 3) := by decide +kernel
theorem dX8_fewest_66 : decode cX8_fewest 66 = .ok (.iconst 1, 1) := by decide +kernel
theorem dX8_fewest_67 : decode cX8_fewest 67 = .ok (.goto 4, 3) := by decide +kernel
theorem dX8_fewest_70 : decode cX8_fewest 70 = .ok (.iconst 0, 1) := by decide +kernel
theorem dX8_fewest_71 : decode cX8_fewest 71 = .ok (.istore 8, 2) := by decide +kernel
theorem dX8_fewest_73 : decode cX8_fewest 73 = .ok (.iload 7, 2) := by decide +kernel
theorem dX8_fewest_75 : decode cX8_fewest 75 = .ok (.iload 5, 2) := by decide +kernel
theorem dX8_fewest_77 : decode cX8_fewest 77 = .ok (.iconst (-1), 1) := by decide +kernel
theorem dX8_fewest_78 : decode cX8_fewest 78 = .ok (.ixor, 1) := by decide +kernel
theorem dX8_fewest_79 : decode cX8_fewest 79 = .ok (.iand, 1) := by decide +kernel
theorem dX8_fewest_80 : decode cX8_fewest 80 = .ok (.ifCond .ne 28, 3) := by decide +kernel
theorem dX8_fewest_83 : decode cX8_fewest 83 = .ok (.iload 8, 2) := by decide +kernel
theorem dX8_fewest_85 : decode cX8_fewest 85 = .ok (.ifCond .eq 23, 3) := by decide +kernel
theorem dX8_fewest_88 : decode cX8_fewest 88 = .ok (.aload_n 0, 1) := by decide +kernel
theorem dX8_fewest_89 : decode cX8_fewest 89 = .ok (.iload 7, 2) := by decide +kernel
theorem dX8_fewest_91 : decode cX8_fewest 91 = .ok (.invokevirtual 155, 3) := by decide +kernel
theorem dX8_fewest_94 : decode cX8_fewest 94 = .ok (.lload_n 2, 1) := by decide +kernel
theorem dX8_fewest_95 : decode cX8_fewest 95 = .ok (.lcmp, 1) := by decide +kernel
theorem dX8_fewest_96 : decode cX8_fewest 96 = .ok (.ifCond .lt 12, 3) := by decide +kernel
theorem dX8_fewest_99 : decode cX8_fewest 99 = .ok (.aload_n 0, 1) := by decide +kernel
theorem dX8_fewest_100 : decode cX8_fewest 100 = .ok (.iload 7, 2) := by decide +kernel
theorem dX8_fewest_102 : decode cX8_fewest 102 = .ok (.invokevirtual 145, 3) := by decide +kernel
theorem dX8_fewest_105 : decode cX8_fewest 105 = .ok (.goto 5, 3) := by decide +kernel
theorem dX8_fewest_108 : decode cX8_fewest 108 = .ok (.iload 6, 2) := by decide +kernel
theorem dX8_fewest_110 : decode cX8_fewest 110 = .ok (.istore 6, 2) := by decide +kernel
theorem dX8_fewest_112 : decode cX8_fewest 112 = .ok (.iinc 7 1, 3) := by decide +kernel
theorem dX8_fewest_115 : decode cX8_fewest 115 = .ok (.goto (-74), 3) := by decide +kernel
theorem dX8_fewest_118 : decode cX8_fewest 118 = .ok (.iload 6, 2) := by decide +kernel
theorem dX8_fewest_120 : decode cX8_fewest 120 = .ok (.ireturn, 1) := by decide +kernel
set_option maxRecDepth 20000 in
theorem ggX8_expire_X8_in : GoodIn wsX8_expire wsX8_in := goodIn_r _ [7] (by decide +kernel) (by decide +kernel)
set_option maxRecDepth 20000 in
theorem gX8_expire_X8_in : GoodIn wsX8_expire (va_wsS RX8 42 yX8_in wsX8_in) := goodIn_app (goodIn_of _ (by decide +kernel)) ggX8_expire_X8_in
set_option maxRecDepth 20000 in
theorem ggX8_expire_X8_asked : GoodIn wsX8_expire wsX8_asked := goodIn_r _ [11, 3, 12, 13, 14, 6, 15, 4, 5, 7, 16, 17, 18, 19, 20, 21, 22, 60, 61, 62, 63, 64, 65, 66, 67, 68, 69, 70, 71, 72] (by decide +kernel) (by decide +kernel)
set_option maxRecDepth 20000 in
theorem gX8_expire_X8_asked : GoodIn wsX8_expire (wsV RX8 92 RX8 yX8_asked wsX8_asked) := goodIn_app (goodIn_of _ (by decide +kernel)) ggX8_expire_X8_asked
set_option maxRecDepth 20000 in
theorem ggX8_expire_X8_looksForOwned : GoodIn wsX8_expire wsX8_looksForOwned := goodIn_r _ [26, 1, 3, 2, 27, 28, 29, 6, 30, 16, 17, 18, 19, 4, 5, 7, 20, 21, 22, 60, 61, 62, 63, 64, 65, 66, 67, 68, 69, 70, 71, 72] (by decide +kernel) (by decide +kernel)
set_option maxRecDepth 20000 in
theorem gX8_expire_X8_looksForOwned : GoodIn wsX8_expire (wsV RX8 148 RX8 yX8_looksForOwned wsX8_looksForOwned) := goodIn_app (goodIn_of _ (by decide +kernel)) ggX8_expire_X8_looksForOwned
set_option maxRecDepth 20000 in
theorem ggX8_expire_X8_isLoose : GoodIn wsX8_expire wsX8_isLoose := goodIn_r _ [34, 3, 35, 36, 37, 6, 38, 39, 40, 41, 42, 43, 44, 45, 46, 16, 17, 18, 19, 4, 5, 7, 20, 21, 22, 27, 28, 29, 30, 60, 61, 62, 63, 64, 65, 66, 67, 68, 69, 70, 71, 72] (by decide +kernel) (by decide +kernel)
set_option maxRecDepth 20000 in
theorem gX8_expire_X8_isLoose : GoodIn wsX8_expire (wsV RX8 142 RX8 yX8_isLoose wsX8_isLoose) := goodIn_app (goodIn_of _ (by decide +kernel)) ggX8_expire_X8_isLoose
set_option maxRecDepth 20000 in
theorem ggX8_expire_X8_removed : GoodIn wsX8_expire wsX8_removed := goodIn_r _ [50, 3, 39, 40, 41, 6, 42, 43, 44, 45, 46, 16, 17, 18, 19, 4, 5, 7, 20, 21, 22, 27, 28, 29, 30, 51, 52, 53, 54, 55, 56, 57, 58, 59, 60, 61, 62, 63, 64, 65, 66, 67, 68, 69, 70, 71, 72] (by decide +kernel) (by decide +kernel)
set_option maxRecDepth 20000 in
theorem gX8_expire_X8_removed : GoodIn wsX8_expire (wsV RX8 112 RX8 yX8_removed wsX8_removed) := goodIn_app (goodIn_of _ (by decide +kernel)) ggX8_expire_X8_removed
theorem dX8_expire_0 : decode cX8_expire 0 = .ok (.iload_n 2, 1) := by decide +kernel
theorem dX8_expire_1 : decode cX8_expire 1 = .ok (.iconst 0, 1) := by decide +kernel
theorem dX8_expire_2 : decode cX8_expire 2 = .ok (.bipush 20, 2) := by decide +kernel
theorem dX8_expire_4 : decode cX8_expire 4 = .ok (.invokestatic 42, 3) := by decide +kernel
theorem dX8_expire_7 : decode cX8_expire 7 = .ok (.ifCond .eq 13, 3) := by decide +kernel
theorem dX8_expire_10 : decode cX8_expire 10 = .ok (.iload_n 3, 1) := by decide +kernel
theorem dX8_expire_11 : decode cX8_expire 11 = .ok (.iconst 1, 1) := by decide +kernel
theorem dX8_expire_12 : decode cX8_expire 12 = .ok (.bipush 100, 2) := by decide +kernel
theorem dX8_expire_14 : decode cX8_expire 14 = .ok (.invokestatic 42, 3) := by decide +kernel
theorem dX8_expire_17 : decode cX8_expire 17 = .ok (.ifCond .ne 6, 3) := by decide +kernel
theorem dX8_expire_20 : decode cX8_expire 20 = .ok (.bipush (-2), 2) := by decide +kernel
theorem dX8_expire_22 : decode cX8_expire 22 = .ok (.ireturn, 1) := by decide +kernel
theorem dX8_expire_23 : decode cX8_expire 23 = .ok (.aload_n 0, 1) := by decide +kernel
theorem dX8_expire_24 : decode cX8_expire 24 = .ok (.iload_n 1, 1) := by decide +kernel
theorem dX8_expire_25 : decode cX8_expire 25 = .ok (.iconst 0, 1) := by decide +kernel
theorem dX8_expire_26 : decode cX8_expire 26 = .ok (.invokevirtual 92, 3) := by decide +kernel
theorem dX8_expire_29 : decode cX8_expire 29 = .ok (.istore 4, 2) := by decide +kernel
theorem dX8_expire_31 : decode cX8_expire 31 = .ok (.iload 4, 2) := by decide +kernel
theorem dX8_expire_33 : decode cX8_expire 33 = .ok (.ifCond .eq 6, 3) := by decide +kernel
theorem dX8_expire_36 : decode cX8_expire 36 = .ok (.iload 4, 2) := by decide +kernel
theorem dX8_expire_38 : decode cX8_expire 38 = .ok (.ireturn, 1) := by decide +kernel
theorem dX8_expire_39 : decode cX8_expire 39 = .ok (.aload_n 0, 1) := by decide +kernel
theorem dX8_expire_40 : decode cX8_expire 40 = .ok (.iload_n 1, 1) := by decide +kernel
theorem dX8_expire_41 : decode cX8_expire 41 = .ok (.invokevirtual 148, 3) := by decide +kernel
theorem dX8_expire_44 : decode cX8_expire 44 = .ok (.iconst 0, 1) := by decide +kernel
theorem dX8_expire_45 : decode cX8_expire 45 = .ok (.istore 5, 2) := by decide +kernel
theorem dX8_expire_47 : decode cX8_expire 47 = .ok (.aload_n 0, 1) := by decide +kernel
theorem dX8_expire_48 : decode cX8_expire 48 = .ok (.getfield 139, 3) := by decide +kernel
theorem dX8_expire_51 : decode cX8_expire 51 = .ok (.iconst 1, 1) := by decide +kernel
theorem dX8_expire_52 : decode cX8_expire 52 = .ok (.isub, 1) := by decide +kernel
theorem dX8_expire_53 : decode cX8_expire 53 = .ok (.istore 6, 2) := by decide +kernel
theorem dX8_expire_55 : decode cX8_expire 55 = .ok (.iload 6, 2) := by decide +kernel
theorem dX8_expire_57 : decode cX8_expire 57 = .ok (.iload_n 2, 1) := by decide +kernel
theorem dX8_expire_58 : decode cX8_expire 58 = .ok (.if_icmp .lt 52, 3) := by decide +kernel
theorem dX8_expire_61 : decode cX8_expire 61 = .ok (.aload_n 0, 1) := by decide +kernel
theorem dX8_expire_62 : decode cX8_expire 62 = .ok (.getfield 22, 3) := by decide +kernel
theorem dX8_expire_65 : decode cX8_expire 65 = .ok (.iload 6, 2) := by decide +kernel
theorem dX8_expire_67 : decode cX8_expire 67 = .ok (.iaload, 1) := by decide +kernel
theorem dX8_expire_68 : decode cX8_expire 68 = .ok (.istore 7, 2) := by decide +kernel
theorem dX8_expire_70 : decode cX8_expire 70 = .ok (.aload_n 0, 1) := by decide +kernel
theorem dX8_expire_71 : decode cX8_expire 71 = .ok (.getfield 7, 3) := by decide +kernel
theorem dX8_expire_74 : decode cX8_expire 74 = .ok (.bipush 22, 2) := by decide +kernel
theorem dX8_expire_76 : decode cX8_expire 76 = .ok (.iload 7, 2) := by decide +kernel
theorem dX8_expire_78 : decode cX8_expire 78 = .ok (.iadd, 1) := by decide +kernel
theorem dX8_expire_79 : decode cX8_expire 79 = .ok (.iaload, 1) := by decide +kernel
theorem dX8_expire_80 : decode cX8_expire 80 = .ok (.iload_n 3, 1) := by decide +kernel
theorem dX8_expire_81 : decode cX8_expire 81 = .ok (.irem, 1) := by decide +kernel
theorem dX8_expire_82 : decode cX8_expire 82 = .ok (.ifCond .eq 22, 3) := by decide +kernel
theorem dX8_expire_85 : decode cX8_expire 85 = .ok (.aload_n 0, 1) := by decide +kernel
theorem dX8_expire_86 : decode cX8_expire 86 = .ok (.iload 7, 2) := by decide +kernel
theorem dX8_expire_88 : decode cX8_expire 88 = .ok (.invokevirtual 142, 3) := by decide +kernel
theorem dX8_expire_91 : decode cX8_expire 91 = .ok (.ifCond .eq 13, 3) := by decide +kernel
theorem dX8_expire_94 : decode cX8_expire 94 = .ok (.aload_n 0, 1) := by decide +kernel
theorem dX8_expire_95 : decode cX8_expire 95 = .ok (.iload 7, 2) := by decide +kernel
theorem dX8_expire_97 : decode cX8_expire 97 = .ok (.invokevirtual 112, 3) := by decide +kernel
theorem dX8_expire_100 : decode cX8_expire 100 = .ok (.pop, 1) := by decide +kernel
theorem dX8_expire_101 : decode cX8_expire 101 = .ok (.iinc 5 1, 3) := by decide +kernel
theorem dX8_expire_104 : decode cX8_expire 104 = .ok (.iinc 6 (-1), 3) := by decide +kernel
theorem dX8_expire_107 : decode cX8_expire 107 = .ok (.goto (-52), 3) := by decide +kernel
theorem dX8_expire_110 : decode cX8_expire 110 = .ok (.iload 5, 2) := by decide +kernel
theorem dX8_expire_112 : decode cX8_expire 112 = .ok (.ireturn, 1) := by decide +kernel
set_option maxRecDepth 20000 in
theorem ggX8_isSheet_X8_in : GoodIn wsX8_isSheet wsX8_in := goodIn_r _ [4] (by decide +kernel) (by decide +kernel)
set_option maxRecDepth 20000 in
theorem gX8_isSheet_X8_in : GoodIn wsX8_isSheet (va_wsS RX8 42 yX8_in wsX8_in) := goodIn_app (goodIn_of _ (by decide +kernel)) ggX8_isSheet_X8_in
theorem dX8_isSheet_0 : decode cX8_isSheet 0 = .ok (.iload_n 0, 1) := by decide +kernel
theorem dX8_isSheet_1 : decode cX8_isSheet 1 = .ok (.iconst 0, 1) := by decide +kernel
theorem dX8_isSheet_2 : decode cX8_isSheet 2 = .ok (.iconst 3, 1) := by decide +kernel
theorem dX8_isSheet_3 : decode cX8_isSheet 3 = .ok (.invokestatic 42, 3) := by decide +kernel
theorem dX8_isSheet_6 : decode cX8_isSheet 6 = .ok (.ireturn, 1) := by decide +kernel
theorem dX8_makes_0 : decode cX8_makes 0 = .ok (.aload_n 0, 1) := by decide +kernel
theorem dX8_makes_1 : decode cX8_makes 1 = .ok (.getfield 28, 3) := by decide +kernel
theorem dX8_makes_4 : decode cX8_makes 4 = .ok (.iload_n 1, 1) := by decide +kernel
theorem dX8_makes_5 : decode cX8_makes 5 = .ok (.iload_n 2, 1) := by decide +kernel
theorem dX8_makes_6 : decode cX8_makes 6 = .ok (.iastore, 1) := by decide +kernel
theorem dX8_makes_7 : decode cX8_makes 7 = .ok (.aload_n 0, 1) := by decide +kernel
theorem dX8_makes_8 : decode cX8_makes 8 = .ok (.getfield 31, 3) := by decide +kernel
theorem dX8_makes_11 : decode cX8_makes 11 = .ok (.iload_n 1, 1) := by decide +kernel
theorem dX8_makes_12 : decode cX8_makes 12 = .ok (.iload_n 3, 1) := by decide +kernel
theorem dX8_makes_13 : decode cX8_makes 13 = .ok (.iastore, 1) := by decide +kernel
theorem dX8_makes_14 : decode cX8_makes 14 = .ok (.iconst 0, 1) := by decide +kernel
theorem dX8_makes_15 : decode cX8_makes 15 = .ok (.istore 4, 2) := by decide +kernel
theorem dX8_makes_17 : decode cX8_makes 17 = .ok (.iload 4, 2) := by decide +kernel
theorem dX8_makes_19 : decode cX8_makes 19 = .ok (.bipush 40, 2) := by decide +kernel
theorem dX8_makes_21 : decode cX8_makes 21 = .ok (.if_icmp .ge 22, 3) := by decide +kernel
theorem dX8_makes_24 : decode cX8_makes 24 = .ok (.aload_n 0, 1) := by decide +kernel
theorem dX8_makes_25 : decode cX8_makes 25 = .ok (.getfield 34, 3) := by decide +kernel
theorem dX8_makes_28 : decode cX8_makes 28 = .ok (.bipush 40, 2) := by decide +kernel
theorem dX8_makes_30 : decode cX8_makes 30 = .ok (.iload_n 1, 1) := by decide +kernel
theorem dX8_makes_31 : decode cX8_makes 31 = .ok (.imul, 1) := by decide +kernel
theorem dX8_makes_32 : decode cX8_makes 32 = .ok (.iload 4, 2) := by decide +kernel
theorem dX8_makes_34 : decode cX8_makes 34 = .ok (.iadd, 1) := by decide +kernel
theorem dX8_makes_35 : decode cX8_makes 35 = .ok (.lconst 0, 1) := by decide +kernel
theorem dX8_makes_36 : decode cX8_makes 36 = .ok (.lastore, 1) := by decide +kernel
theorem dX8_makes_37 : decode cX8_makes 37 = .ok (.iinc 4 1, 3) := by decide +kernel
theorem dX8_makes_40 : decode cX8_makes 40 = .ok (.goto (-23), 3) := by decide +kernel
theorem dX8_makes_43 : decode cX8_makes 43 = .ok (.return_, 1) := by decide +kernel
set_option maxRecDepth 20000 in
theorem ggX8_sheet_X8_isSheet : GoodIn wsX8_sheet wsX8_isSheet := goodIn_r _ [4, 5, 6, 3, 7] (by decide +kernel) (by decide +kernel)
set_option maxRecDepth 20000 in
theorem gX8_sheet_X8_isSheet : GoodIn wsX8_sheet (va_wsS RX8 158 yX8_isSheet wsX8_isSheet) := goodIn_app (goodIn_of _ (by decide +kernel)) ggX8_sheet_X8_isSheet
set_option maxRecDepth 20000 in
theorem ggX8_sheet_X8_in : GoodIn wsX8_sheet wsX8_in := goodIn_r _ [7] (by decide +kernel) (by decide +kernel)
set_option maxRecDepth 20000 in
theorem gX8_sheet_X8_in : GoodIn wsX8_sheet (va_wsS RX8 42 yX8_in wsX8_in) := goodIn_app (goodIn_of _ (by decide +kernel)) ggX8_sheet_X8_in
set_option maxRecDepth 20000 in
theorem ggX8_sheet_X8_makes : GoodIn wsX8_sheet wsX8_makes := goodIn_r _ [11, 12, 13, 14, 15, 16, 17, 18, 19, 20, 21, 22, 23, 24, 25, 26, 27] (by decide +kernel) (by decide +kernel)
set_option maxRecDepth 20000 in
theorem gX8_sheet_X8_makes : GoodIn wsX8_sheet (wsV RX8 161 RX8 yX8_makes wsX8_makes) := goodIn_app (goodIn_of _ (by decide +kernel)) ggX8_sheet_X8_makes
theorem dX8_sheet_0 : decode cX8_sheet 0 = .ok (.iload_n 1, 1) := by decide +kernel
theorem dX8_sheet_1 : decode cX8_sheet 1 = .ok (.invokestatic 158, 3) := by decide +kernel
theorem dX8_sheet_4 : decode cX8_sheet 4 = .ok (.ifCond .eq 23, 3) := by decide +kernel
theorem dX8_sheet_7 : decode cX8_sheet 7 = .ok (.iload_n 2, 1) := by decide +kernel
theorem dX8_sheet_8 : decode cX8_sheet 8 = .ok (.iconst (-1), 1) := by decide +kernel
theorem dX8_sheet_9 : decode cX8_sheet 9 = .ok (.iconst 1, 1) := by decide +kernel
theorem dX8_sheet_10 : decode cX8_sheet 10 = .ok (.invokestatic 42, 3) := by decide +kernel
theorem dX8_sheet_13 : decode cX8_sheet 13 = .ok (.ifCond .eq 14, 3) := by decide +kernel
theorem dX8_sheet_16 : decode cX8_sheet 16 = .ok (.iload_n 2, 1) := by decide +kernel
theorem dX8_sheet_17 : decode cX8_sheet 17 = .ok (.iconst (-1), 1) := by decide +kernel
theorem dX8_sheet_18 : decode cX8_sheet 18 = .ok (.if_icmp .eq 12, 3) := by decide +kernel
theorem dX8_sheet_21 : decode cX8_sheet 21 = .ok (.iload_n 3, 1) := by decide +kernel
theorem dX8_sheet_22 : decode cX8_sheet 22 = .ok (.bipush 40, 2) := by decide +kernel
theorem dX8_sheet_24 : decode cX8_sheet 24 = .ok (.if_icmp .le 6, 3) := by decide +kernel
theorem dX8_sheet_27 : decode cX8_sheet 27 = .ok (.bipush (-2), 2) := by decide +kernel
theorem dX8_sheet_29 : decode cX8_sheet 29 = .ok (.ireturn, 1) := by decide +kernel
theorem dX8_sheet_30 : decode cX8_sheet 30 = .ok (.iload_n 2, 1) := by decide +kernel
theorem dX8_sheet_31 : decode cX8_sheet 31 = .ok (.iconst (-1), 1) := by decide +kernel
theorem dX8_sheet_32 : decode cX8_sheet 32 = .ok (.if_icmp .eq 10, 3) := by decide +kernel
theorem dX8_sheet_35 : decode cX8_sheet 35 = .ok (.iload_n 3, 1) := by decide +kernel
theorem dX8_sheet_36 : decode cX8_sheet 36 = .ok (.ifCond .ge 6, 3) := by decide +kernel
theorem dX8_sheet_39 : decode cX8_sheet 39 = .ok (.bipush (-14), 2) := by decide +kernel
theorem dX8_sheet_41 : decode cX8_sheet 41 = .ok (.ireturn, 1) := by decide +kernel
theorem dX8_sheet_42 : decode cX8_sheet 42 = .ok (.aload_n 0, 1) := by decide +kernel
theorem dX8_sheet_43 : decode cX8_sheet 43 = .ok (.iload_n 1, 1) := by decide +kernel
theorem dX8_sheet_44 : decode cX8_sheet 44 = .ok (.iload_n 2, 1) := by decide +kernel
theorem dX8_sheet_45 : decode cX8_sheet 45 = .ok (.iload_n 2, 1) := by decide +kernel
theorem dX8_sheet_46 : decode cX8_sheet 46 = .ok (.iconst (-1), 1) := by decide +kernel
theorem dX8_sheet_47 : decode cX8_sheet 47 = .ok (.if_icmp .ne 7, 3) := by decide +kernel
theorem dX8_sheet_50 : decode cX8_sheet 50 = .ok (.iconst 0, 1) := by decide +kernel
theorem dX8_sheet_51 : decode cX8_sheet 51 = .ok (.goto 4, 3) := by decide +kernel
theorem dX8_sheet_54 : decode cX8_sheet 54 = .ok (.iload_n 3, 1) := by decide +kernel
theorem dX8_sheet_55 : decode cX8_sheet 55 = .ok (.invokevirtual 161, 3) := by decide +kernel
theorem dX8_sheet_58 : decode cX8_sheet 58 = .ok (.iconst 1, 1) := by decide +kernel
theorem dX8_sheet_59 : decode cX8_sheet 59 = .ok (.ireturn, 1) := by decide +kernel
set_option maxRecDepth 20000 in
theorem ggX8_cell_X8_isSheet : GoodIn wsX8_cell wsX8_isSheet := goodIn_r _ [7, 8, 9, 6, 10] (by decide +kernel) (by decide +kernel)
set_option maxRecDepth 20000 in
theorem gX8_cell_X8_isSheet : GoodIn wsX8_cell (va_wsS RX8 158 yX8_isSheet wsX8_isSheet) := goodIn_app (goodIn_of _ (by decide +kernel)) ggX8_cell_X8_isSheet
set_option maxRecDepth 20000 in
theorem ggX8_cell_X8_in : GoodIn wsX8_cell wsX8_in := goodIn_r _ [10] (by decide +kernel) (by decide +kernel)
set_option maxRecDepth 20000 in
theorem gX8_cell_X8_in : GoodIn wsX8_cell (va_wsS RX8 42 yX8_in wsX8_in) := goodIn_app (goodIn_of _ (by decide +kernel)) ggX8_cell_X8_in
theorem dX8_cell_0 : decode cX8_cell 0 = .ok (.iload_n 1, 1) := by decide +kernel
theorem dX8_cell_1 : decode cX8_cell 1 = .ok (.invokestatic 158, 3) := by decide +kernel
theorem dX8_cell_4 : decode cX8_cell 4 = .ok (.ifCond .ne 6, 3) := by decide +kernel
theorem dX8_cell_7 : decode cX8_cell 7 = .ok (.bipush (-2), 2) := by decide +kernel
theorem dX8_cell_9 : decode cX8_cell 9 = .ok (.ireturn, 1) := by decide +kernel
theorem dX8_cell_10 : decode cX8_cell 10 = .ok (.aload_n 0, 1) := by decide +kernel
theorem dX8_cell_11 : decode cX8_cell 11 = .ok (.getfield 28, 3) := by decide +kernel
theorem dX8_cell_14 : decode cX8_cell 14 = .ok (.iload_n 1, 1) := by decide +kernel
theorem dX8_cell_15 : decode cX8_cell 15 = .ok (.iaload, 1) := by decide +kernel
theorem dX8_cell_16 : decode cX8_cell 16 = .ok (.iconst (-1), 1) := by decide +kernel
theorem dX8_cell_17 : decode cX8_cell 17 = .ok (.if_icmp .ne 6, 3) := by decide +kernel
theorem dX8_cell_20 : decode cX8_cell 20 = .ok (.bipush (-11), 2) := by decide +kernel
theorem dX8_cell_22 : decode cX8_cell 22 = .ok (.ireturn, 1) := by decide +kernel
theorem dX8_cell_23 : decode cX8_cell 23 = .ok (.iload_n 2, 1) := by decide +kernel
theorem dX8_cell_24 : decode cX8_cell 24 = .ok (.iconst 0, 1) := by decide +kernel
theorem dX8_cell_25 : decode cX8_cell 25 = .ok (.aload_n 0, 1) := by decide +kernel
theorem dX8_cell_26 : decode cX8_cell 26 = .ok (.getfield 31, 3) := by decide +kernel
theorem dX8_cell_29 : decode cX8_cell 29 = .ok (.iload_n 1, 1) := by decide +kernel
theorem dX8_cell_30 : decode cX8_cell 30 = .ok (.iaload, 1) := by decide +kernel
theorem dX8_cell_31 : decode cX8_cell 31 = .ok (.iconst 1, 1) := by decide +kernel
theorem dX8_cell_32 : decode cX8_cell 32 = .ok (.isub, 1) := by decide +kernel
theorem dX8_cell_33 : decode cX8_cell 33 = .ok (.invokestatic 42, 3) := by decide +kernel
theorem dX8_cell_36 : decode cX8_cell 36 = .ok (.ifCond .ne 6, 3) := by decide +kernel
theorem dX8_cell_39 : decode cX8_cell 39 = .ok (.bipush (-12), 2) := by decide +kernel
theorem dX8_cell_41 : decode cX8_cell 41 = .ok (.ireturn, 1) := by decide +kernel
theorem dX8_cell_42 : decode cX8_cell 42 = .ok (.aload_n 0, 1) := by decide +kernel
theorem dX8_cell_43 : decode cX8_cell 43 = .ok (.getfield 34, 3) := by decide +kernel
theorem dX8_cell_46 : decode cX8_cell 46 = .ok (.bipush 40, 2) := by decide +kernel
theorem dX8_cell_48 : decode cX8_cell 48 = .ok (.iload_n 1, 1) := by decide +kernel
theorem dX8_cell_49 : decode cX8_cell 49 = .ok (.imul, 1) := by decide +kernel
theorem dX8_cell_50 : decode cX8_cell 50 = .ok (.iload_n 2, 1) := by decide +kernel
theorem dX8_cell_51 : decode cX8_cell 51 = .ok (.iadd, 1) := by decide +kernel
theorem dX8_cell_52 : decode cX8_cell 52 = .ok (.aload_n 0, 1) := by decide +kernel
theorem dX8_cell_53 : decode cX8_cell 53 = .ok (.getfield 28, 3) := by decide +kernel
theorem dX8_cell_56 : decode cX8_cell 56 = .ok (.iload_n 1, 1) := by decide +kernel
theorem dX8_cell_57 : decode cX8_cell 57 = .ok (.iaload, 1) := by decide +kernel
theorem dX8_cell_58 : decode cX8_cell 58 = .ok (.ifCond .ne 9, 3) := by decide +kernel
theorem dX8_cell_61 : decode cX8_cell 61 = .ok (.lload_n 3, 1) := by decide +kernel
theorem dX8_cell_62 : decode cX8_cell 62 = .ok (.l2i, 1) := by decide +kernel
theorem dX8_cell_63 : decode cX8_cell 63 = .ok (.i2l, 1) := by decide +kernel
theorem dX8_cell_64 : decode cX8_cell 64 = .ok (.goto 4, 3) := by decide +kernel
theorem dX8_cell_67 : decode cX8_cell 67 = .ok (.lload_n 3, 1) := by decide +kernel
theorem dX8_cell_68 : decode cX8_cell 68 = .ok (.lastore, 1) := by decide +kernel
theorem dX8_cell_69 : decode cX8_cell 69 = .ok (.iconst 1, 1) := by decide +kernel
theorem dX8_cell_70 : decode cX8_cell 70 = .ok (.ireturn, 1) := by decide +kernel
set_option maxRecDepth 20000 in
theorem ggX8_item_X8_isSheet : GoodIn wsX8_item wsX8_isSheet := goodIn_r _ [8, 9, 10, 7, 11] (by decide +kernel) (by decide +kernel)
set_option maxRecDepth 20000 in
theorem gX8_item_X8_isSheet : GoodIn wsX8_item (va_wsS RX8 158 yX8_isSheet wsX8_isSheet) := goodIn_app (goodIn_of _ (by decide +kernel)) ggX8_item_X8_isSheet
set_option maxRecDepth 20000 in
theorem ggX8_item_X8_in : GoodIn wsX8_item wsX8_in := goodIn_r _ [11] (by decide +kernel) (by decide +kernel)
set_option maxRecDepth 20000 in
theorem gX8_item_X8_in : GoodIn wsX8_item (va_wsS RX8 42 yX8_in wsX8_in) := goodIn_app (goodIn_of _ (by decide +kernel)) ggX8_item_X8_in
theorem dX8_item_0 : decode cX8_item 0 = .ok (.iload_n 1, 1) := by decide +kernel
theorem dX8_item_1 : decode cX8_item 1 = .ok (.invokestatic 158, 3) := by decide +kernel
theorem dX8_item_4 : decode cX8_item 4 = .ok (.ifCond .eq 43, 3) := by decide +kernel
theorem dX8_item_7 : decode cX8_item 7 = .ok (.aload_n 0, 1) := by decide +kernel
theorem dX8_item_8 : decode cX8_item 8 = .ok (.getfield 28, 3) := by decide +kernel
theorem dX8_item_11 : decode cX8_item 11 = .ok (.iload_n 1, 1) := by decide +kernel
theorem dX8_item_12 : decode cX8_item 12 = .ok (.iaload, 1) := by decide +kernel
theorem dX8_item_13 : decode cX8_item 13 = .ok (.iconst (-1), 1) := by decide +kernel
theorem dX8_item_14 : decode cX8_item 14 = .ok (.if_icmp .eq 33, 3) := by decide +kernel
theorem dX8_item_17 : decode cX8_item 17 = .ok (.iload_n 2, 1) := by decide +kernel
theorem dX8_item_18 : decode cX8_item 18 = .ok (.iconst 0, 1) := by decide +kernel
theorem dX8_item_19 : decode cX8_item 19 = .ok (.aload_n 0, 1) := by decide +kernel
theorem dX8_item_20 : decode cX8_item 20 = .ok (.getfield 31, 3) := by decide +kernel
theorem dX8_item_23 : decode cX8_item 23 = .ok (.iload_n 1, 1) := by decide +kernel
theorem dX8_item_24 : decode cX8_item 24 = .ok (.iaload, 1) := by decide +kernel
theorem dX8_item_25 : decode cX8_item 25 = .ok (.iconst 1, 1) := by decide +kernel
theorem dX8_item_26 : decode cX8_item 26 = .ok (.isub, 1) := by decide +kernel
theorem dX8_item_27 : decode cX8_item 27 = .ok (.invokestatic 42, 3) := by decide +kernel
theorem dX8_item_30 : decode cX8_item 30 = .ok (.ifCond .eq 17, 3) := by decide +kernel
theorem dX8_item_33 : decode cX8_item 33 = .ok (.aload_n 0, 1) := by decide +kernel
theorem dX8_item_34 : decode cX8_item 34 = .ok (.getfield 34, 3) := by decide +kernel
theorem dX8_item_37 : decode cX8_item 37 = .ok (.bipush 40, 2) := by decide +kernel
theorem dX8_item_39 : decode cX8_item 39 = .ok (.iload_n 1, 1) := by decide +kernel
theorem dX8_item_40 : decode cX8_item 40 = .ok (.imul, 1) := by decide +kernel
theorem dX8_item_41 : decode cX8_item 41 = .ok (.iload_n 2, 1) := by decide +kernel
theorem dX8_item_42 : decode cX8_item 42 = .ok (.iadd, 1) := by decide +kernel
theorem dX8_item_43 : decode cX8_item 43 = .ok (.laload, 1) := by decide +kernel
theorem dX8_item_44 : decode cX8_item 44 = .ok (.goto 6, 3) := by decide +kernel
theorem dX8_item_47 : decode cX8_item 47 = .ok (.ldc2_w 134, 3) := by decide +kernel
theorem dX8_item_50 : decode cX8_item 50 = .ok (.lreturn, 1) := by decide +kernel
set_option maxRecDepth 20000 in
theorem ggX8_differ_X8_isSheet : GoodIn wsX8_differ wsX8_isSheet := goodIn_r _ [7, 8, 9, 6, 10] (by decide +kernel) (by decide +kernel)
set_option maxRecDepth 20000 in
theorem gX8_differ_X8_isSheet : GoodIn wsX8_differ (va_wsS RX8 158 yX8_isSheet wsX8_isSheet) := goodIn_app (goodIn_of _ (by decide +kernel)) ggX8_differ_X8_isSheet
set_option maxRecDepth 20000 in
theorem ggX8_differ_X8_askedSlots : GoodIn wsX8_differ wsX8_askedSlots := goodIn_r _ [14, 15, 16, 17, 6, 18, 8, 9, 10, 19, 20, 21, 22, 1, 23, 24, 25, 26, 27, 28, 29, 30, 31, 32, 33, 34, 35, 36, 37, 47, 48, 49, 50, 51, 52, 53, 54, 55, 56, 57, 58, 59] (by decide +kernel) (by decide +kernel)
set_option maxRecDepth 20000 in
theorem gX8_differ_X8_askedSlots : GoodIn wsX8_differ (wsV RX8 122 RX8 yX8_askedSlots wsX8_askedSlots) := goodIn_app (goodIn_of _ (by decide +kernel)) ggX8_differ_X8_askedSlots
set_option maxRecDepth 20000 in
theorem ggX8_differ_X8_makes : GoodIn wsX8_differ wsX8_makes := goodIn_r _ [41, 42, 3, 2, 47, 48, 49, 50, 51, 52, 53, 54, 55, 56, 57, 58, 59] (by decide +kernel) (by decide +kernel)
set_option maxRecDepth 20000 in
theorem gX8_differ_X8_makes : GoodIn wsX8_differ (wsV RX8 161 RX8 yX8_makes wsX8_makes) := goodIn_app (goodIn_of _ (by decide +kernel)) ggX8_differ_X8_makes
set_option maxRecDepth 20000 in
theorem ggX8_differ_X8_sizeIn : GoodIn wsX8_differ wsX8_sizeIn := goodIn_r _ [46, 1, 47, 48, 49, 50, 51, 52, 53, 54, 55, 56, 57, 58, 59] (by decide +kernel) (by decide +kernel)
set_option maxRecDepth 20000 in
theorem gX8_differ_X8_sizeIn : GoodIn wsX8_differ (wsV RX8 86 RX8 yX8_sizeIn wsX8_sizeIn) := goodIn_app (goodIn_of _ (by decide +kernel)) ggX8_differ_X8_sizeIn
theorem dX8_differ_0 : decode cX8_differ 0 = .ok (.iload_n 1, 1) := by decide +kernel
theorem dX8_differ_1 : decode cX8_differ 1 = .ok (.invokestatic 158, 3) := by decide +kernel
theorem dX8_differ_4 : decode cX8_differ 4 = .ok (.ifCond .ne 6, 3) := by decide +kernel
theorem dX8_differ_7 : decode cX8_differ 7 = .ok (.bipush (-2), 2) := by decide +kernel
theorem dX8_differ_9 : decode cX8_differ 9 = .ok (.ireturn, 1) := by decide +kernel
theorem dX8_differ_10 : decode cX8_differ 10 = .ok (.aload_n 0, 1) := by decide +kernel
theorem dX8_differ_11 : decode cX8_differ 11 = .ok (.iload_n 2, 1) := by decide +kernel
theorem dX8_differ_12 : decode cX8_differ 12 = .ok (.invokevirtual 122, 3) := by decide +kernel
theorem dX8_differ_15 : decode cX8_differ 15 = .ok (.istore 4, 2) := by decide +kernel
theorem dX8_differ_17 : decode cX8_differ 17 = .ok (.iload 4, 2) := by decide +kernel
theorem dX8_differ_19 : decode cX8_differ 19 = .ok (.ifCond .eq 8, 3) := by decide +kernel
theorem dX8_differ_22 : decode cX8_differ 22 = .ok (.iload 4, 2) := by decide +kernel
theorem dX8_differ_24 : decode cX8_differ 24 = .ok (.goto 8, 3) := by decide +kernel
theorem dX8_differ_27 : decode cX8_differ 27 = .ok (.aload_n 0, 1) := by decide +kernel
theorem dX8_differ_28 : decode cX8_differ 28 = .ok (.iload_n 3, 1) := by decide +kernel
theorem dX8_differ_29 : decode cX8_differ 29 = .ok (.invokevirtual 122, 3) := by decide +kernel
theorem dX8_differ_32 : decode cX8_differ 32 = .ok (.istore 4, 2) := by decide +kernel
theorem dX8_differ_34 : decode cX8_differ 34 = .ok (.iload 4, 2) := by decide +kernel
theorem dX8_differ_36 : decode cX8_differ 36 = .ok (.ifCond .eq 6, 3) := by decide +kernel
theorem dX8_differ_39 : decode cX8_differ 39 = .ok (.iload 4, 2) := by decide +kernel
theorem dX8_differ_41 : decode cX8_differ 41 = .ok (.ireturn, 1) := by decide +kernel
theorem dX8_differ_42 : decode cX8_differ 42 = .ok (.aload_n 0, 1) := by decide +kernel
theorem dX8_differ_43 : decode cX8_differ 43 = .ok (.iload_n 1, 1) := by decide +kernel
theorem dX8_differ_44 : decode cX8_differ 44 = .ok (.iconst 1, 1) := by decide +kernel
theorem dX8_differ_45 : decode cX8_differ 45 = .ok (.iconst 0, 1) := by decide +kernel
theorem dX8_differ_46 : decode cX8_differ 46 = .ok (.invokevirtual 161, 3) := by decide +kernel
theorem dX8_differ_49 : decode cX8_differ 49 = .ok (.iconst 0, 1) := by decide +kernel
theorem dX8_differ_50 : decode cX8_differ 50 = .ok (.istore 5, 2) := by decide +kernel
theorem dX8_differ_52 : decode cX8_differ 52 = .ok (.iconst 0, 1) := by decide +kernel
theorem dX8_differ_53 : decode cX8_differ 53 = .ok (.istore 6, 2) := by decide +kernel
theorem dX8_differ_55 : decode cX8_differ 55 = .ok (.iload 6, 2) := by decide +kernel
theorem dX8_differ_57 : decode cX8_differ 57 = .ok (.bipush 12, 2) := by decide +kernel
theorem dX8_differ_59 : decode cX8_differ 59 = .ok (.if_icmp .ge 82, 3) := by decide +kernel
theorem dX8_differ_62 : decode cX8_differ 62 = .ok (.aload_n 0, 1) := by decide +kernel
theorem dX8_differ_63 : decode cX8_differ 63 = .ok (.getfield 7, 3) := by decide +kernel
theorem dX8_differ_66 : decode cX8_differ 66 = .ok (.bipush 122, 2) := by decide +kernel
theorem dX8_differ_68 : decode cX8_differ 68 = .ok (.bipush 12, 2) := by decide +kernel
theorem dX8_differ_70 : decode cX8_differ 70 = .ok (.iload_n 2, 1) := by decide +kernel
theorem dX8_differ_71 : decode cX8_differ 71 = .ok (.imul, 1) := by decide +kernel
theorem dX8_differ_72 : decode cX8_differ 72 = .ok (.iadd, 1) := by decide +kernel
theorem dX8_differ_73 : decode cX8_differ 73 = .ok (.iload 6, 2) := by decide +kernel
theorem dX8_differ_75 : decode cX8_differ 75 = .ok (.iadd, 1) := by decide +kernel
theorem dX8_differ_76 : decode cX8_differ 76 = .ok (.iaload, 1) := by decide +kernel
theorem dX8_differ_77 : decode cX8_differ 77 = .ok (.aload_n 0, 1) := by decide +kernel
theorem dX8_differ_78 : decode cX8_differ 78 = .ok (.getfield 7, 3) := by decide +kernel
theorem dX8_differ_81 : decode cX8_differ 81 = .ok (.bipush 122, 2) := by decide +kernel
theorem dX8_differ_83 : decode cX8_differ 83 = .ok (.bipush 12, 2) := by decide +kernel
theorem dX8_differ_85 : decode cX8_differ 85 = .ok (.iload_n 3, 1) := by decide +kernel
theorem dX8_differ_86 : decode cX8_differ 86 = .ok (.imul, 1) := by decide +kernel
theorem dX8_differ_87 : decode cX8_differ 87 = .ok (.iadd, 1) := by decide +kernel
theorem dX8_differ_88 : decode cX8_differ 88 = .ok (.iload 6, 2) := by decide +kernel
theorem dX8_differ_90 : decode cX8_differ 90 = .ok (.iadd, 1) := by decide +kernel
theorem dX8_differ_91 : decode cX8_differ 91 = .ok (.iaload, 1) := by decide +kernel
theorem dX8_differ_92 : decode cX8_differ 92 = .ok (.if_icmp .eq 43, 3) := by decide +kernel
theorem dX8_differ_95 : decode cX8_differ 95 = .ok (.aload_n 0, 1) := by decide +kernel
theorem dX8_differ_96 : decode cX8_differ 96 = .ok (.getfield 34, 3) := by decide +kernel
theorem dX8_differ_99 : decode cX8_differ 99 = .ok (.bipush 40, 2) := by decide +kernel
theorem dX8_differ_101 : decode cX8_differ 101 = .ok (.iload_n 1, 1) := by decide +kernel
theorem dX8_differ_102 : decode cX8_differ 102 = .ok (.imul, 1) := by decide +kernel
theorem dX8_differ_103 : decode cX8_differ 103 = .ok (.iload 5, 2) := by decide +kernel
theorem dX8_differ_105 : decode cX8_differ 105 = .ok (.iadd, 1) := by decide +kernel
theorem dX8_differ_106 : decode cX8_differ 106 = .ok (.iload 6, 2) := by decide +kernel
theorem dX8_differ_108 : decode cX8_differ 108 = .ok (.i2l, 1) := by decide +kernel
theorem dX8_differ_109 : decode cX8_differ 109 = .ok (.lastore, 1) := by decide +kernel
theorem dX8_differ_110 : decode cX8_differ 110 = .ok (.aload_n 0, 1) := by decide +kernel
theorem dX8_differ_111 : decode cX8_differ 111 = .ok (.getfield 34, 3) := by decide +kernel
theorem dX8_differ_114 : decode cX8_differ 114 = .ok (.bipush 40, 2) := by decide +kernel
theorem dX8_differ_116 : decode cX8_differ 116 = .ok (.iload_n 1, 1) := by decide +kernel
theorem dX8_differ_117 : decode cX8_differ 117 = .ok (.imul, 1) := by decide +kernel
theorem dX8_differ_118 : decode cX8_differ 118 = .ok (.iload 5, 2) := by decide +kernel
theorem dX8_differ_120 : decode cX8_differ 120 = .ok (.iadd, 1) := by decide +kernel
theorem dX8_differ_121 : decode cX8_differ 121 = .ok (.iconst 1, 1) := by decide +kernel
theorem dX8_differ_122 : decode cX8_differ 122 = .ok (.iadd, 1) := by decide +kernel
theorem dX8_differ_123 : decode cX8_differ 123 = .ok (.aload_n 0, 1) := by decide +kernel
theorem dX8_differ_124 : decode cX8_differ 124 = .ok (.iload_n 3, 1) := by decide +kernel
theorem dX8_differ_125 : decode cX8_differ 125 = .ok (.iload 6, 2) := by decide +kernel
theorem dX8_differ_127 : decode cX8_differ 127 = .ok (.invokevirtual 86, 3) := by decide +kernel
theorem dX8_differ_130 : decode cX8_differ 130 = .ok (.i2l, 1) := by decide +kernel
theorem dX8_differ_131 : decode cX8_differ 131 = .ok (.lastore, 1) := by decide +kernel
theorem dX8_differ_132 : decode cX8_differ 132 = .ok (.iinc 5 2, 3) := by decide +kernel
theorem dX8_differ_135 : decode cX8_differ 135 = .ok (.iinc 6 1, 3) := by decide +kernel
theorem dX8_differ_138 : decode cX8_differ 138 = .ok (.goto (-83), 3) := by decide +kernel
theorem dX8_differ_141 : decode cX8_differ 141 = .ok (.aload_n 0, 1) := by decide +kernel
theorem dX8_differ_142 : decode cX8_differ 142 = .ok (.getfield 31, 3) := by decide +kernel
theorem dX8_differ_145 : decode cX8_differ 145 = .ok (.iload_n 1, 1) := by decide +kernel
theorem dX8_differ_146 : decode cX8_differ 146 = .ok (.iload 5, 2) := by decide +kernel
theorem dX8_differ_148 : decode cX8_differ 148 = .ok (.iastore, 1) := by decide +kernel
theorem dX8_differ_149 : decode cX8_differ 149 = .ok (.iload 5, 2) := by decide +kernel
theorem dX8_differ_151 : decode cX8_differ 151 = .ok (.ireturn, 1) := by decide +kernel
set_option maxRecDepth 20000 in
theorem ggX8_isApplied_X8_erased : GoodIn wsX8_isApplied wsX8_erased := goodIn_r _ [7, 8, 9, 10, 11, 6, 12, 13, 14, 15, 16, 17, 18, 19, 20, 21, 22, 23, 24, 25, 26, 27, 28, 29, 30, 31, 32, 33, 34, 35, 36, 37, 38, 39, 56, 57, 58, 59, 60, 61, 62, 63, 64, 65, 66, 67, 68] (by decide +kernel) (by decide +kernel)
set_option maxRecDepth 20000 in
theorem gX8_isApplied_X8_erased : GoodIn wsX8_isApplied (wsV RX8 99 RX8 yX8_erased wsX8_erased) := goodIn_app (goodIn_of _ (by decide +kernel)) ggX8_isApplied_X8_erased
set_option maxRecDepth 20000 in
theorem ggX8_isApplied_X8_written : GoodIn wsX8_isApplied wsX8_written := goodIn_r _ [43, 8, 44, 45, 46, 6, 47, 48, 49, 50, 51, 52, 53, 54, 55, 9, 10, 11, 12, 13, 14, 15, 16, 17, 18, 19, 20, 21, 22, 23, 24, 25, 26, 27, 28, 29, 30, 31, 32, 33, 34, 35, 36, 37, 38, 39, 56, 57, 58, 59, 60, 61, 62, 63, 64, 65, 66, 67, 68] (by decide +kernel) (by decide +kernel)
set_option maxRecDepth 20000 in
theorem gX8_isApplied_X8_written : GoodIn wsX8_isApplied (wsV RX8 95 RX8 yX8_written wsX8_written) := goodIn_app (goodIn_of _ (by decide +kernel)) ggX8_isApplied_X8_written
theorem dX8_isApplied_0 : decode cX8_isApplied 0 = .ok (.lload_n 2, 1) := by decide +kernel
theorem dX8_isApplied_1 : decode cX8_isApplied 1 = .ok (.lconst 0, 1) := by decide +kernel
theorem dX8_isApplied_2 : decode cX8_isApplied 2 = .ok (.lcmp, 1) := by decide +kernel
theorem dX8_isApplied_3 : decode cX8_isApplied 3 = .ok (.ifCond .lt 27, 3) := by decide +kernel
theorem dX8_isApplied_6 : decode cX8_isApplied 6 = .ok (.lload_n 2, 1) := by decide +kernel
theorem dX8_isApplied_7 : decode cX8_isApplied 7 = .ok (.ldc2_w 165, 3) := by decide +kernel
theorem dX8_isApplied_10 : decode cX8_isApplied 10 = .ok (.lcmp, 1) := by decide +kernel
theorem dX8_isApplied_11 : decode cX8_isApplied 11 = .ok (.ifCond .gt 19, 3) := by decide +kernel
theorem dX8_isApplied_14 : decode cX8_isApplied 14 = .ok (.lload 4, 2) := by decide +kernel
theorem dX8_isApplied_16 : decode cX8_isApplied 16 = .ok (.lconst 0, 1) := by decide +kernel
theorem dX8_isApplied_17 : decode cX8_isApplied 17 = .ok (.lcmp, 1) := by decide +kernel
theorem dX8_isApplied_18 : decode cX8_isApplied 18 = .ok (.ifCond .lt 12, 3) := by decide +kernel
theorem dX8_isApplied_21 : decode cX8_isApplied 21 = .ok (.lload 4, 2) := by decide +kernel
theorem dX8_isApplied_23 : decode cX8_isApplied 23 = .ok (.ldc2_w 167, 3) := by decide +kernel
theorem dX8_isApplied_26 : decode cX8_isApplied 26 = .ok (.lcmp, 1) := by decide +kernel
theorem dX8_isApplied_27 : decode cX8_isApplied 27 = .ok (.ifCond .le 5, 3) := by decide +kernel
theorem dX8_isApplied_30 : decode cX8_isApplied 30 = .ok (.iconst 0, 1) := by decide +kernel
theorem dX8_isApplied_31 : decode cX8_isApplied 31 = .ok (.ireturn, 1) := by decide +kernel
theorem dX8_isApplied_32 : decode cX8_isApplied 32 = .ok (.lload 4, 2) := by decide +kernel
theorem dX8_isApplied_34 : decode cX8_isApplied 34 = .ok (.lconst 0, 1) := by decide +kernel
theorem dX8_isApplied_35 : decode cX8_isApplied 35 = .ok (.lcmp, 1) := by decide +kernel
theorem dX8_isApplied_36 : decode cX8_isApplied 36 = .ok (.ifCond .ne 13, 3) := by decide +kernel
theorem dX8_isApplied_39 : decode cX8_isApplied 39 = .ok (.aload_n 0, 1) := by decide +kernel
theorem dX8_isApplied_40 : decode cX8_isApplied 40 = .ok (.iload_n 1, 1) := by decide +kernel
theorem dX8_isApplied_41 : decode cX8_isApplied 41 = .ok (.lload_n 2, 1) := by decide +kernel
theorem dX8_isApplied_42 : decode cX8_isApplied 42 = .ok (.l2i, 1) := by decide +kernel
theorem dX8_isApplied_43 : decode cX8_isApplied 43 = .ok (.invokevirtual 99, 3) := by decide +kernel
theorem dX8_isApplied_46 : decode cX8_isApplied 46 = .ok (.pop, 1) := by decide +kernel
theorem dX8_isApplied_47 : decode cX8_isApplied 47 = .ok (.iconst 1, 1) := by decide +kernel
theorem dX8_isApplied_48 : decode cX8_isApplied 48 = .ok (.ireturn, 1) := by decide +kernel
theorem dX8_isApplied_49 : decode cX8_isApplied 49 = .ok (.aload_n 0, 1) := by decide +kernel
theorem dX8_isApplied_50 : decode cX8_isApplied 50 = .ok (.iload_n 1, 1) := by decide +kernel
theorem dX8_isApplied_51 : decode cX8_isApplied 51 = .ok (.lload_n 2, 1) := by decide +kernel
theorem dX8_isApplied_52 : decode cX8_isApplied 52 = .ok (.l2i, 1) := by decide +kernel
theorem dX8_isApplied_53 : decode cX8_isApplied 53 = .ok (.lload 4, 2) := by decide +kernel
theorem dX8_isApplied_55 : decode cX8_isApplied 55 = .ok (.l2i, 1) := by decide +kernel
theorem dX8_isApplied_56 : decode cX8_isApplied 56 = .ok (.invokevirtual 95, 3) := by decide +kernel
theorem dX8_isApplied_59 : decode cX8_isApplied 59 = .ok (.ifCond .lt 7, 3) := by decide +kernel
theorem dX8_isApplied_62 : decode cX8_isApplied 62 = .ok (.iconst 1, 1) := by decide +kernel
theorem dX8_isApplied_63 : decode cX8_isApplied 63 = .ok (.goto 4, 3) := by decide +kernel
theorem dX8_isApplied_66 : decode cX8_isApplied 66 = .ok (.iconst 0, 1) := by decide +kernel
theorem dX8_isApplied_67 : decode cX8_isApplied 67 = .ok (.ireturn, 1) := by decide +kernel
set_option maxRecDepth 20000 in
theorem ggX8_apply_X8_isSheet : GoodIn wsX8_apply wsX8_isSheet := goodIn_r _ [7, 8, 9, 6, 10] (by decide +kernel) (by decide +kernel)
set_option maxRecDepth 20000 in
theorem gX8_apply_X8_isSheet : GoodIn wsX8_apply (va_wsS RX8 158 yX8_isSheet wsX8_isSheet) := goodIn_app (goodIn_of _ (by decide +kernel)) ggX8_apply_X8_isSheet
set_option maxRecDepth 20000 in
theorem ggX8_apply_X8_in : GoodIn wsX8_apply wsX8_in := goodIn_r _ [10] (by decide +kernel) (by decide +kernel)
set_option maxRecDepth 20000 in
theorem gX8_apply_X8_in : GoodIn wsX8_apply (va_wsS RX8 42 yX8_in wsX8_in) := goodIn_app (goodIn_of _ (by decide +kernel)) ggX8_apply_X8_in
set_option maxRecDepth 20000 in
theorem ggX8_apply_X8_asked : GoodIn wsX8_apply wsX8_asked := goodIn_r _ [14, 15, 16, 17, 18, 6, 19, 8, 9, 10, 20, 21, 22, 23, 24, 25, 26, 74, 75, 76, 77, 78, 79, 80, 81, 82, 83, 84, 85, 86] (by decide +kernel) (by decide +kernel)
set_option maxRecDepth 20000 in
theorem gX8_apply_X8_asked : GoodIn wsX8_apply (wsV RX8 92 RX8 yX8_asked wsX8_asked) := goodIn_app (goodIn_of _ (by decide +kernel)) ggX8_apply_X8_asked
set_option maxRecDepth 20000 in
theorem ggX8_apply_X8_isApplied : GoodIn wsX8_apply wsX8_isApplied := goodIn_r _ [30, 31, 32, 33, 34, 35, 6, 36, 15, 37, 38, 39, 40, 41, 42, 43, 44, 45, 46, 47, 48, 49, 50, 51, 52, 53, 20, 21, 22, 23, 8, 9, 10, 24, 25, 26, 54, 55, 56, 57, 58, 59, 60, 61, 62, 63, 64, 65, 66, 67, 68, 69, 70, 71, 72, 73, 74, 75, 76, 77, 78, 79, 80, 81, 82, 83, 84, 85, 86] (by decide +kernel) (by decide +kernel)
set_option maxRecDepth 20000 in
theorem gX8_apply_X8_isApplied : GoodIn wsX8_apply (wsV RX8 169 RX8 yX8_isApplied wsX8_isApplied) := goodIn_app (goodIn_of _ (by decide +kernel)) ggX8_apply_X8_isApplied
theorem dX8_apply_0 : decode cX8_apply 0 = .ok (.iload_n 2, 1) := by decide +kernel
theorem dX8_apply_1 : decode cX8_apply 1 = .ok (.invokestatic 158, 3) := by decide +kernel
theorem dX8_apply_4 : decode cX8_apply 4 = .ok (.ifCond .eq 12, 3) := by decide +kernel
theorem dX8_apply_7 : decode cX8_apply 7 = .ok (.iload_n 3, 1) := by decide +kernel
theorem dX8_apply_8 : decode cX8_apply 8 = .ok (.iconst 0, 1) := by decide +kernel
theorem dX8_apply_9 : decode cX8_apply 9 = .ok (.iconst 1, 1) := by decide +kernel
theorem dX8_apply_10 : decode cX8_apply 10 = .ok (.invokestatic 42, 3) := by decide +kernel
theorem dX8_apply_13 : decode cX8_apply 13 = .ok (.ifCond .ne 6, 3) := by decide +kernel
theorem dX8_apply_16 : decode cX8_apply 16 = .ok (.bipush (-2), 2) := by decide +kernel
theorem dX8_apply_18 : decode cX8_apply 18 = .ok (.ireturn, 1) := by decide +kernel
theorem dX8_apply_19 : decode cX8_apply 19 = .ok (.aload_n 0, 1) := by decide +kernel
theorem dX8_apply_20 : decode cX8_apply 20 = .ok (.iload_n 1, 1) := by decide +kernel
theorem dX8_apply_21 : decode cX8_apply 21 = .ok (.iconst 0, 1) := by decide +kernel
theorem dX8_apply_22 : decode cX8_apply 22 = .ok (.invokevirtual 92, 3) := by decide +kernel
theorem dX8_apply_25 : decode cX8_apply 25 = .ok (.istore 4, 2) := by decide +kernel
theorem dX8_apply_27 : decode cX8_apply 27 = .ok (.iload 4, 2) := by decide +kernel
theorem dX8_apply_29 : decode cX8_apply 29 = .ok (.ifCond .eq 6, 3) := by decide +kernel
theorem dX8_apply_32 : decode cX8_apply 32 = .ok (.iload 4, 2) := by decide +kernel
theorem dX8_apply_34 : decode cX8_apply 34 = .ok (.ireturn, 1) := by decide +kernel
theorem dX8_apply_35 : decode cX8_apply 35 = .ok (.aload_n 0, 1) := by decide +kernel
theorem dX8_apply_36 : decode cX8_apply 36 = .ok (.getfield 28, 3) := by decide +kernel
theorem dX8_apply_39 : decode cX8_apply 39 = .ok (.iload_n 2, 1) := by decide +kernel
theorem dX8_apply_40 : decode cX8_apply 40 = .ok (.iaload, 1) := by decide +kernel
theorem dX8_apply_41 : decode cX8_apply 41 = .ok (.iconst (-1), 1) := by decide +kernel
theorem dX8_apply_42 : decode cX8_apply 42 = .ok (.if_icmp .eq 16, 3) := by decide +kernel
theorem dX8_apply_45 : decode cX8_apply 45 = .ok (.aload_n 0, 1) := by decide +kernel
theorem dX8_apply_46 : decode cX8_apply 46 = .ok (.getfield 28, 3) := by decide +kernel
theorem dX8_apply_49 : decode cX8_apply 49 = .ok (.iload_n 2, 1) := by decide +kernel
theorem dX8_apply_50 : decode cX8_apply 50 = .ok (.iaload, 1) := by decide +kernel
theorem dX8_apply_51 : decode cX8_apply 51 = .ok (.iload_n 3, 1) := by decide +kernel
theorem dX8_apply_52 : decode cX8_apply 52 = .ok (.if_icmp .eq 6, 3) := by decide +kernel
theorem dX8_apply_55 : decode cX8_apply 55 = .ok (.bipush (-13), 2) := by decide +kernel
theorem dX8_apply_57 : decode cX8_apply 57 = .ok (.ireturn, 1) := by decide +kernel
theorem dX8_apply_58 : decode cX8_apply 58 = .ok (.aload_n 0, 1) := by decide +kernel
theorem dX8_apply_59 : decode cX8_apply 59 = .ok (.getfield 28, 3) := by decide +kernel
theorem dX8_apply_62 : decode cX8_apply 62 = .ok (.iload_n 2, 1) := by decide +kernel
theorem dX8_apply_63 : decode cX8_apply 63 = .ok (.iaload, 1) := by decide +kernel
theorem dX8_apply_64 : decode cX8_apply 64 = .ok (.iconst (-1), 1) := by decide +kernel
theorem dX8_apply_65 : decode cX8_apply 65 = .ok (.if_icmp .ne 6, 3) := by decide +kernel
theorem dX8_apply_68 : decode cX8_apply 68 = .ok (.bipush (-11), 2) := by decide +kernel
theorem dX8_apply_70 : decode cX8_apply 70 = .ok (.ireturn, 1) := by decide +kernel
theorem dX8_apply_71 : decode cX8_apply 71 = .ok (.iconst 0, 1) := by decide +kernel
theorem dX8_apply_72 : decode cX8_apply 72 = .ok (.istore 5, 2) := by decide +kernel
theorem dX8_apply_74 : decode cX8_apply 74 = .ok (.iconst 0, 1) := by decide +kernel
theorem dX8_apply_75 : decode cX8_apply 75 = .ok (.istore 6, 2) := by decide +kernel
theorem dX8_apply_77 : decode cX8_apply 77 = .ok (.iload 6, 2) := by decide +kernel
theorem dX8_apply_79 : decode cX8_apply 79 = .ok (.iconst 1, 1) := by decide +kernel
theorem dX8_apply_80 : decode cX8_apply 80 = .ok (.iadd, 1) := by decide +kernel
theorem dX8_apply_81 : decode cX8_apply 81 = .ok (.aload_n 0, 1) := by decide +kernel
theorem dX8_apply_82 : decode cX8_apply 82 = .ok (.getfield 31, 3) := by decide +kernel
theorem dX8_apply_85 : decode cX8_apply 85 = .ok (.iload_n 2, 1) := by decide +kernel
theorem dX8_apply_86 : decode cX8_apply 86 = .ok (.iaload, 1) := by decide +kernel
theorem dX8_apply_87 : decode cX8_apply 87 = .ok (.if_icmp .ge 53, 3) := by decide +kernel
theorem dX8_apply_90 : decode cX8_apply 90 = .ok (.iload 5, 2) := by decide +kernel
theorem dX8_apply_92 : decode cX8_apply 92 = .ok (.aload_n 0, 1) := by decide +kernel
theorem dX8_apply_93 : decode cX8_apply 93 = .ok (.iload_n 1, 1) := by decide +kernel
theorem dX8_apply_94 : decode cX8_apply 94 = .ok (.aload_n 0, 1) := by decide +kernel
theorem dX8_apply_95 : decode cX8_apply 95 = .ok (.getfield 34, 3) := by decide +kernel
theorem dX8_apply_98 : decode cX8_apply 98 = .ok (.bipush 40, 2) := by decide +kernel
theorem dX8_apply_100 : decode cX8_apply 100 = .ok (.iload_n 2, 1) := by decide +kernel
theorem dX8_apply_101 : decode cX8_apply 101 = .ok (.imul, 1) := by decide +kernel
theorem dX8_apply_102 : decode cX8_apply 102 = .ok (.iload 6, 2) := by decide +kernel
theorem dX8_apply_104 : decode cX8_apply 104 = .ok (.iadd, 1) := by decide +kernel
theorem dX8_apply_105 : decode cX8_apply 105 = .ok (.laload, 1) := by decide +kernel
theorem dX8_apply_106 : decode cX8_apply 106 = .ok (.aload_n 0, 1) := by decide +kernel
theorem dX8_apply_107 : decode cX8_apply 107 = .ok (.getfield 34, 3) := by decide +kernel
theorem dX8_apply_110 : decode cX8_apply 110 = .ok (.bipush 40, 2) := by decide +kernel
theorem dX8_apply_112 : decode cX8_apply 112 = .ok (.iload_n 2, 1) := by decide +kernel
theorem dX8_apply_113 : decode cX8_apply 113 = .ok (.imul, 1) := by decide +kernel
theorem dX8_apply_114 : decode cX8_apply 114 = .ok (.iload 6, 2) := by decide +kernel
theorem dX8_apply_116 : decode cX8_apply 116 = .ok (.iadd, 1) := by decide +kernel
theorem dX8_apply_117 : decode cX8_apply 117 = .ok (.iconst 1, 1) := by decide +kernel
theorem dX8_apply_118 : decode cX8_apply 118 = .ok (.iadd, 1) := by decide +kernel
theorem dX8_apply_119 : decode cX8_apply 119 = .ok (.laload, 1) := by decide +kernel
theorem dX8_apply_120 : decode cX8_apply 120 = .ok (.invokevirtual 169, 3) := by decide +kernel
theorem dX8_apply_123 : decode cX8_apply 123 = .ok (.ifCond .eq 7, 3) := by decide +kernel
theorem dX8_apply_126 : decode cX8_apply 126 = .ok (.iconst 1, 1) := by decide +kernel
theorem dX8_apply_127 : decode cX8_apply 127 = .ok (.goto 4, 3) := by decide +kernel
theorem dX8_apply_130 : decode cX8_apply 130 = .ok (.iconst 0, 1) := by decide +kernel
theorem dX8_apply_131 : decode cX8_apply 131 = .ok (.iadd, 1) := by decide +kernel
theorem dX8_apply_132 : decode cX8_apply 132 = .ok (.istore 5, 2) := by decide +kernel
theorem dX8_apply_134 : decode cX8_apply 134 = .ok (.iinc 6 2, 3) := by decide +kernel
theorem dX8_apply_137 : decode cX8_apply 137 = .ok (.goto (-60), 3) := by decide +kernel
theorem dX8_apply_140 : decode cX8_apply 140 = .ok (.aload_n 0, 1) := by decide +kernel
theorem dX8_apply_141 : decode cX8_apply 141 = .ok (.getfield 31, 3) := by decide +kernel
theorem dX8_apply_144 : decode cX8_apply 144 = .ok (.iload_n 2, 1) := by decide +kernel
theorem dX8_apply_145 : decode cX8_apply 145 = .ok (.iaload, 1) := by decide +kernel
theorem dX8_apply_146 : decode cX8_apply 146 = .ok (.iconst 2, 1) := by decide +kernel
theorem dX8_apply_147 : decode cX8_apply 147 = .ok (.irem, 1) := by decide +kernel
theorem dX8_apply_148 : decode cX8_apply 148 = .ok (.iconst 1, 1) := by decide +kernel
theorem dX8_apply_149 : decode cX8_apply 149 = .ok (.if_icmp .ne 8, 3) := by decide +kernel
theorem dX8_apply_152 : decode cX8_apply 152 = .ok (.bipush (-12), 2) := by decide +kernel
theorem dX8_apply_154 : decode cX8_apply 154 = .ok (.goto 5, 3) := by decide +kernel
theorem dX8_apply_157 : decode cX8_apply 157 = .ok (.iload 5, 2) := by decide +kernel
theorem dX8_apply_159 : decode cX8_apply 159 = .ok (.ireturn, 1) := by decide +kernel
theorem dX8_lots_0 : decode cX8_lots 0 = .ok (.aload_n 0, 1) := by decide +kernel
theorem dX8_lots_1 : decode cX8_lots 1 = .ok (.aload_n 0, 1) := by decide +kernel
theorem dX8_lots_2 : decode cX8_lots 2 = .ok (.getfield 173, 3) := by decide +kernel
theorem dX8_lots_5 : decode cX8_lots 5 = .ok (.ldc 176, 2) := by decide +kernel
theorem dX8_lots_7 : decode cX8_lots 7 = .ok (.imul, 1) := by decide +kernel
theorem dX8_lots_8 : decode cX8_lots 8 = .ok (.sipush 12345, 3) := by decide +kernel
theorem dX8_lots_11 : decode cX8_lots 11 = .ok (.iadd, 1) := by decide +kernel
theorem dX8_lots_12 : decode cX8_lots 12 = .ok (.putfield 173, 3) := by decide +kernel
theorem dX8_lots_15 : decode cX8_lots 15 = .ok (.aload_n 0, 1) := by decide +kernel
theorem dX8_lots_16 : decode cX8_lots 16 = .ok (.getfield 173, 3) := by decide +kernel
theorem dX8_lots_19 : decode cX8_lots 19 = .ok (.bipush 9, 2) := by decide +kernel
theorem dX8_lots_21 : decode cX8_lots 21 = .ok (.iushr, 1) := by decide +kernel
theorem dX8_lots_22 : decode cX8_lots 22 = .ok (.bipush 24, 2) := by decide +kernel
theorem dX8_lots_24 : decode cX8_lots 24 = .ok (.irem, 1) := by decide +kernel
theorem dX8_lots_25 : decode cX8_lots 25 = .ok (.ireturn, 1) := by decide +kernel
set_option maxRecDepth 20000 in
theorem ggX8_draws_X8_write : GoodIn wsX8_draws wsX8_write := goodIn_r _ [5, 6, 7, 8, 4, 9, 10, 11, 12, 13, 14, 15, 16, 17, 18, 19, 20, 21, 22, 23, 24, 25, 26, 27, 28, 29, 30, 31, 32, 33, 34, 35, 36, 37, 38, 39, 40, 41, 42, 43, 44, 45, 46, 47, 48, 49, 50, 51, 52, 53, 54, 55, 56, 57, 58, 59, 60, 61, 62, 123, 124, 125, 126, 127, 128, 129, 130, 131, 132, 133, 134, 135] (by decide +kernel) (by decide +kernel)
set_option maxRecDepth 20000 in
theorem gX8_draws_X8_write : GoodIn wsX8_draws (wsV RX8 177 RX8 yX8_write wsX8_write) := goodIn_app (goodIn_of _ (by decide +kernel)) ggX8_draws_X8_write
set_option maxRecDepth 20000 in
theorem ggX8_draws_X8_erase : GoodIn wsX8_draws wsX8_erase := goodIn_r _ [66, 7, 8, 4, 9, 10, 11, 12, 13, 14, 15, 16, 17, 18, 19, 20, 21, 22, 23, 24, 25, 67, 68, 69, 70, 42, 43, 44, 45, 46, 47, 48, 49, 50, 51, 52, 53, 54, 55, 56, 57, 58, 59, 60, 61, 62, 123, 124, 125, 126, 127, 128, 129, 130, 131, 132, 133, 134, 135] (by decide +kernel) (by decide +kernel)
set_option maxRecDepth 20000 in
theorem gX8_draws_X8_erase : GoodIn wsX8_draws (wsV RX8 180 RX8 yX8_erase wsX8_erase) := goodIn_app (goodIn_of _ (by decide +kernel)) ggX8_draws_X8_erase
set_option maxRecDepth 20000 in
theorem ggX8_draws_X8_snap : GoodIn wsX8_draws wsX8_snap := goodIn_r _ [74, 14, 7, 8, 4, 9, 10, 11, 12, 13, 15, 16, 17, 18, 19, 20, 21, 22, 23, 24, 25, 75, 76, 77, 78, 79, 80, 81, 82, 83, 84, 85, 86, 123, 124, 125, 126, 127, 128, 129, 130, 131, 132, 133, 134, 135] (by decide +kernel) (by decide +kernel)
set_option maxRecDepth 20000 in
theorem gX8_draws_X8_snap : GoodIn wsX8_draws (wsV RX8 183 RX8 yX8_snap wsX8_snap) := goodIn_app (goodIn_of _ (by decide +kernel)) ggX8_draws_X8_snap
set_option maxRecDepth 20000 in
theorem ggX8_draws_X8_remove : GoodIn wsX8_draws wsX8_remove := goodIn_r _ [90, 14, 15, 16, 17, 4, 18, 7, 8, 9, 19, 20, 21, 22, 59, 60, 61, 62, 23, 24, 25, 91, 92, 93, 94, 51, 52, 53, 54, 55, 56, 57, 58, 95, 96, 97, 98, 99, 100, 101, 102, 42, 43, 44, 45, 46, 47, 48, 49, 50, 123, 124, 125, 126, 127, 128, 129, 130, 131, 132, 133, 134, 135] (by decide +kernel) (by decide +kernel)
set_option maxRecDepth 20000 in
theorem gX8_draws_X8_remove : GoodIn wsX8_draws (wsV RX8 186 RX8 yX8_remove wsX8_remove) := goodIn_app (goodIn_of _ (by decide +kernel)) ggX8_draws_X8_remove
set_option maxRecDepth 20000 in
theorem ggX8_draws_X8_fork : GoodIn wsX8_draws wsX8_fork := goodIn_r _ [106, 14, 10, 11, 12, 4, 13, 15, 16, 17, 18, 7, 8, 9, 19, 20, 21, 22, 23, 24, 25, 75, 76, 77, 78, 79, 80, 81, 82, 83, 84, 85, 86, 123, 124, 125, 126, 127, 128, 129, 130, 131, 132, 133, 134, 135] (by decide +kernel) (by decide +kernel)
set_option maxRecDepth 20000 in
theorem gX8_draws_X8_fork : GoodIn wsX8_draws (wsV RX8 189 RX8 yX8_fork wsX8_fork) := goodIn_app (goodIn_of _ (by decide +kernel)) ggX8_draws_X8_fork
set_option maxRecDepth 20000 in
theorem ggX8_draws_X8_promote : GoodIn wsX8_draws wsX8_promote := goodIn_r _ [110, 14, 10, 11, 12, 4, 13, 15, 16, 17, 18, 7, 8, 9, 19, 20, 21, 22, 23, 24, 25, 111, 112, 113, 114, 123, 124, 125, 126, 127, 128, 129, 130, 131, 132, 133, 134, 135] (by decide +kernel) (by decide +kernel)
set_option maxRecDepth 20000 in
theorem gX8_draws_X8_promote : GoodIn wsX8_draws (wsV RX8 192 RX8 yX8_promote wsX8_promote) := goodIn_app (goodIn_of _ (by decide +kernel)) ggX8_draws_X8_promote
set_option maxRecDepth 20000 in
theorem ggX8_draws_X8_rollback : GoodIn wsX8_draws wsX8_rollback := goodIn_r _ [118, 14, 10, 11, 12, 4, 13, 15, 16, 17, 18, 7, 8, 9, 19, 20, 21, 22, 23, 24, 25, 83, 84, 85, 86, 42, 43, 44, 45, 46, 47, 48, 49, 50, 51, 52, 53, 54, 55, 56, 57, 58, 59, 60, 61, 62, 123, 124, 125, 126, 127, 128, 129, 130, 131, 132, 133, 134, 135] (by decide +kernel) (by decide +kernel)
set_option maxRecDepth 20000 in
theorem gX8_draws_X8_rollback : GoodIn wsX8_draws (wsV RX8 195 RX8 yX8_rollback wsX8_rollback) := goodIn_app (goodIn_of _ (by decide +kernel)) ggX8_draws_X8_rollback
set_option maxRecDepth 20000 in
theorem ggX8_draws_X8_files : GoodIn wsX8_draws wsX8_files := goodIn_r _ [122, 6, 14, 7, 8, 4, 9, 75, 76, 77, 78, 79, 80, 81, 82, 123, 124, 125, 126, 127, 128, 129, 130, 131, 132, 133, 134, 135] (by decide +kernel) (by decide +kernel)
set_option maxRecDepth 20000 in
theorem gX8_draws_X8_files : GoodIn wsX8_draws (wsV RX8 198 RX8 yX8_files wsX8_files) := goodIn_app (goodIn_of _ (by decide +kernel)) ggX8_draws_X8_files
theorem dX8_draws_0 : decode cX8_draws 0 = .ok (.iload_n 2, 1) := by decide +kernel
theorem dX8_draws_1 : decode cX8_draws 1 = .ok (.bipush 20, 2) := by decide +kernel
theorem dX8_draws_3 : decode cX8_draws 3 = .ok (.irem, 1) := by decide +kernel
theorem dX8_draws_4 : decode cX8_draws 4 = .ok (.istore 4, 2) := by decide +kernel
theorem dX8_draws_6 : decode cX8_draws 6 = .ok (.iload_n 1, 1) := by decide +kernel
theorem dX8_draws_7 : decode cX8_draws 7 = .ok (.bipush 8, 2) := by decide +kernel
theorem dX8_draws_9 : decode cX8_draws 9 = .ok (.if_icmp .ge 20, 3) := by decide +kernel
theorem dX8_draws_12 : decode cX8_draws 12 = .ok (.aload_n 0, 1) := by decide +kernel
theorem dX8_draws_13 : decode cX8_draws 13 = .ok (.iload 4, 2) := by decide +kernel
theorem dX8_draws_15 : decode cX8_draws 15 = .ok (.iload_n 3, 1) := by decide +kernel
theorem dX8_draws_16 : decode cX8_draws 16 = .ok (.bipush 12, 2) := by decide +kernel
theorem dX8_draws_18 : decode cX8_draws 18 = .ok (.irem, 1) := by decide +kernel
theorem dX8_draws_19 : decode cX8_draws 19 = .ok (.iconst 1, 1) := by decide +kernel
theorem dX8_draws_20 : decode cX8_draws 20 = .ok (.iload_n 2, 1) := by decide +kernel
theorem dX8_draws_21 : decode cX8_draws 21 = .ok (.iadd, 1) := by decide +kernel
theorem dX8_draws_22 : decode cX8_draws 22 = .ok (.invokevirtual 177, 3) := by decide +kernel
theorem dX8_draws_25 : decode cX8_draws 25 = .ok (.pop, 1) := by decide +kernel
theorem dX8_draws_26 : decode cX8_draws 26 = .ok (.goto 113, 3) := by decide +kernel
theorem dX8_draws_29 : decode cX8_draws 29 = .ok (.iload_n 1, 1) := by decide +kernel
theorem dX8_draws_30 : decode cX8_draws 30 = .ok (.bipush 11, 2) := by decide +kernel
theorem dX8_draws_32 : decode cX8_draws 32 = .ok (.if_icmp .ge 17, 3) := by decide +kernel
theorem dX8_draws_35 : decode cX8_draws 35 = .ok (.aload_n 0, 1) := by decide +kernel
theorem dX8_draws_36 : decode cX8_draws 36 = .ok (.iload 4, 2) := by decide +kernel
theorem dX8_draws_38 : decode cX8_draws 38 = .ok (.iload_n 3, 1) := by decide +kernel
theorem dX8_draws_39 : decode cX8_draws 39 = .ok (.bipush 12, 2) := by decide +kernel
theorem dX8_draws_41 : decode cX8_draws 41 = .ok (.irem, 1) := by decide +kernel
theorem dX8_draws_42 : decode cX8_draws 42 = .ok (.invokevirtual 180, 3) := by decide +kernel
theorem dX8_draws_45 : decode cX8_draws 45 = .ok (.pop, 1) := by decide +kernel
theorem dX8_draws_46 : decode cX8_draws 46 = .ok (.goto 93, 3) := by decide +kernel
theorem dX8_draws_49 : decode cX8_draws 49 = .ok (.iload_n 1, 1) := by decide +kernel
theorem dX8_draws_50 : decode cX8_draws 50 = .ok (.bipush 15, 2) := by decide +kernel
theorem dX8_draws_52 : decode cX8_draws 52 = .ok (.if_icmp .ge 17, 3) := by decide +kernel
theorem dX8_draws_55 : decode cX8_draws 55 = .ok (.aload_n 0, 1) := by decide +kernel
theorem dX8_draws_56 : decode cX8_draws 56 = .ok (.iload 4, 2) := by decide +kernel
theorem dX8_draws_58 : decode cX8_draws 58 = .ok (.iload_n 3, 1) := by decide +kernel
theorem dX8_draws_59 : decode cX8_draws 59 = .ok (.bipush 20, 2) := by decide +kernel
theorem dX8_draws_61 : decode cX8_draws 61 = .ok (.idiv, 1) := by decide +kernel
theorem dX8_draws_62 : decode cX8_draws 62 = .ok (.invokevirtual 183, 3) := by decide +kernel
theorem dX8_draws_65 : decode cX8_draws 65 = .ok (.pop, 1) := by decide +kernel
theorem dX8_draws_66 : decode cX8_draws 66 = .ok (.goto 73, 3) := by decide +kernel
theorem dX8_draws_69 : decode cX8_draws 69 = .ok (.iload_n 1, 1) := by decide +kernel
theorem dX8_draws_70 : decode cX8_draws 70 = .ok (.bipush 19, 2) := by decide +kernel
theorem dX8_draws_72 : decode cX8_draws 72 = .ok (.if_icmp .ge 13, 3) := by decide +kernel
theorem dX8_draws_75 : decode cX8_draws 75 = .ok (.aload_n 0, 1) := by decide +kernel
theorem dX8_draws_76 : decode cX8_draws 76 = .ok (.iload 4, 2) := by decide +kernel
theorem dX8_draws_78 : decode cX8_draws 78 = .ok (.invokevirtual 186, 3) := by decide +kernel
theorem dX8_draws_81 : decode cX8_draws 81 = .ok (.pop, 1) := by decide +kernel
theorem dX8_draws_82 : decode cX8_draws 82 = .ok (.goto 57, 3) := by decide +kernel
theorem dX8_draws_85 : decode cX8_draws 85 = .ok (.iload_n 1, 1) := by decide +kernel
theorem dX8_draws_86 : decode cX8_draws 86 = .ok (.bipush 21, 2) := by decide +kernel
theorem dX8_draws_88 : decode cX8_draws 88 = .ok (.if_icmp .ge 13, 3) := by decide +kernel
theorem dX8_draws_91 : decode cX8_draws 91 = .ok (.aload_n 0, 1) := by decide +kernel
theorem dX8_draws_92 : decode cX8_draws 92 = .ok (.iload 4, 2) := by decide +kernel
theorem dX8_draws_94 : decode cX8_draws 94 = .ok (.invokevirtual 189, 3) := by decide +kernel
theorem dX8_draws_97 : decode cX8_draws 97 = .ok (.pop, 1) := by decide +kernel
theorem dX8_draws_98 : decode cX8_draws 98 = .ok (.goto 41, 3) := by decide +kernel
theorem dX8_draws_101 : decode cX8_draws 101 = .ok (.iload_n 1, 1) := by decide +kernel
theorem dX8_draws_102 : decode cX8_draws 102 = .ok (.bipush 21, 2) := by decide +kernel
theorem dX8_draws_104 : decode cX8_draws 104 = .ok (.if_icmp .ne 13, 3) := by decide +kernel
theorem dX8_draws_107 : decode cX8_draws 107 = .ok (.aload_n 0, 1) := by decide +kernel
theorem dX8_draws_108 : decode cX8_draws 108 = .ok (.iload 4, 2) := by decide +kernel
theorem dX8_draws_110 : decode cX8_draws 110 = .ok (.invokevirtual 192, 3) := by decide +kernel
theorem dX8_draws_113 : decode cX8_draws 113 = .ok (.pop, 1) := by decide +kernel
theorem dX8_draws_114 : decode cX8_draws 114 = .ok (.goto 25, 3) := by decide +kernel
theorem dX8_draws_117 : decode cX8_draws 117 = .ok (.iload_n 1, 1) := by decide +kernel
theorem dX8_draws_118 : decode cX8_draws 118 = .ok (.bipush 22, 2) := by decide +kernel
theorem dX8_draws_120 : decode cX8_draws 120 = .ok (.if_icmp .ne 13, 3) := by decide +kernel
theorem dX8_draws_123 : decode cX8_draws 123 = .ok (.aload_n 0, 1) := by decide +kernel
theorem dX8_draws_124 : decode cX8_draws 124 = .ok (.iload 4, 2) := by decide +kernel
theorem dX8_draws_126 : decode cX8_draws 126 = .ok (.invokevirtual 195, 3) := by decide +kernel
theorem dX8_draws_129 : decode cX8_draws 129 = .ok (.pop, 1) := by decide +kernel
theorem dX8_draws_130 : decode cX8_draws 130 = .ok (.goto 9, 3) := by decide +kernel
theorem dX8_draws_133 : decode cX8_draws 133 = .ok (.aload_n 0, 1) := by decide +kernel
theorem dX8_draws_134 : decode cX8_draws 134 = .ok (.iconst (-1), 1) := by decide +kernel
theorem dX8_draws_135 : decode cX8_draws 135 = .ok (.invokevirtual 198, 3) := by decide +kernel
theorem dX8_draws_138 : decode cX8_draws 138 = .ok (.pop, 1) := by decide +kernel
theorem dX8_draws_139 : decode cX8_draws 139 = .ok (.return_, 1) := by decide +kernel
set_option maxRecDepth 20000 in
theorem ggX8_things_X8_isThing : GoodIn wsX8_things wsX8_isThing := goodIn_r _ [5, 6, 7, 8, 4, 9, 10, 11, 12, 13, 14, 15, 16, 17, 18, 19, 20, 21, 22] (by decide +kernel) (by decide +kernel)
set_option maxRecDepth 20000 in
theorem gX8_things_X8_isThing : GoodIn wsX8_things (wsV RX8 46 RX8 yX8_isThing wsX8_isThing) := goodIn_app (goodIn_of _ (by decide +kernel)) ggX8_things_X8_isThing
theorem dX8_things_0 : decode cX8_things 0 = .ok (.iconst 0, 1) := by decide +kernel
theorem dX8_things_1 : decode cX8_things 1 = .ok (.istore_n 1, 1) := by decide +kernel
theorem dX8_things_2 : decode cX8_things 2 = .ok (.iconst 0, 1) := by decide +kernel
theorem dX8_things_3 : decode cX8_things 3 = .ok (.istore_n 2, 1) := by decide +kernel
theorem dX8_things_4 : decode cX8_things 4 = .ok (.iload_n 2, 1) := by decide +kernel
theorem dX8_things_5 : decode cX8_things 5 = .ok (.bipush 20, 2) := by decide +kernel
theorem dX8_things_7 : decode cX8_things 7 = .ok (.if_icmp .ge 25, 3) := by decide +kernel
theorem dX8_things_10 : decode cX8_things 10 = .ok (.iload_n 1, 1) := by decide +kernel
theorem dX8_things_11 : decode cX8_things 11 = .ok (.aload_n 0, 1) := by decide +kernel
theorem dX8_things_12 : decode cX8_things 12 = .ok (.iload_n 2, 1) := by decide +kernel
theorem dX8_things_13 : decode cX8_things 13 = .ok (.invokevirtual 46, 3) := by decide +kernel
theorem dX8_things_16 : decode cX8_things 16 = .ok (.ifCond .eq 7, 3) := by decide +kernel
theorem dX8_things_19 : decode cX8_things 19 = .ok (.iconst 1, 1) := by decide +kernel
theorem dX8_things_20 : decode cX8_things 20 = .ok (.goto 4, 3) := by decide +kernel
theorem dX8_things_23 : decode cX8_things 23 = .ok (.iconst 0, 1) := by decide +kernel
theorem dX8_things_24 : decode cX8_things 24 = .ok (.iadd, 1) := by decide +kernel
theorem dX8_things_25 : decode cX8_things 25 = .ok (.istore_n 1, 1) := by decide +kernel
theorem dX8_things_26 : decode cX8_things 26 = .ok (.iinc 2 1, 3) := by decide +kernel
theorem dX8_things_29 : decode cX8_things 29 = .ok (.goto (-25), 3) := by decide +kernel
theorem dX8_things_32 : decode cX8_things 32 = .ok (.iload_n 1, 1) := by decide +kernel
theorem dX8_things_33 : decode cX8_things 33 = .ok (.ireturn, 1) := by decide +kernel
set_option maxRecDepth 20000 in
theorem ggX8_drawn_X8_in : GoodIn wsX8_drawn wsX8_in := goodIn_r _ [8] (by decide +kernel) (by decide +kernel)
set_option maxRecDepth 20000 in
theorem gX8_drawn_X8_in : GoodIn wsX8_drawn (va_wsS RX8 42 yX8_in wsX8_in) := goodIn_app (goodIn_of _ (by decide +kernel)) ggX8_drawn_X8_in
set_option maxRecDepth 20000 in
theorem ggX8_drawn_X8_lots : GoodIn wsX8_drawn wsX8_lots := goodIn_r _ [12, 4, 13, 143, 144, 145, 146, 147, 148, 149, 150, 151, 152, 153, 154, 155] (by decide +kernel) (by decide +kernel)
set_option maxRecDepth 20000 in
theorem gX8_drawn_X8_lots : GoodIn wsX8_drawn (wsV RX8 201 RX8 yX8_lots wsX8_lots) := goodIn_app (goodIn_of _ (by decide +kernel)) ggX8_drawn_X8_lots
set_option maxRecDepth 20000 in
theorem ggX8_drawn_X8_draws : GoodIn wsX8_drawn wsX8_draws := goodIn_r _ [17, 18, 19, 20, 7, 21, 22, 5, 6, 8, 23, 24, 25, 26, 3, 27, 28, 29, 30, 31, 32, 33, 34, 35, 36, 37, 38, 39, 40, 41, 42, 43, 44, 45, 46, 47, 48, 49, 50, 51, 52, 53, 54, 55, 56, 57, 58, 59, 60, 61, 62, 63, 64, 65, 66, 67, 68, 69, 70, 71, 72, 73, 74, 75, 76, 77, 78, 79, 80, 81, 82, 83, 84, 85, 86, 87, 88, 89, 90, 91, 92, 93, 94, 95, 96, 97, 98, 99, 100, 101, 102, 103, 104, 105, 106, 107, 108, 109, 110, 111, 112, 113, 114, 115, 116, 117, 118, 119, 120, 121, 122, 123, 124, 125, 126, 127, 128, 129, 130, 131, 132, 133, 134, 143, 144, 145, 146, 147, 148, 149, 150, 151, 152, 153, 154, 155] (by decide +kernel) (by decide +kernel)
set_option maxRecDepth 20000 in
theorem gX8_drawn_X8_draws : GoodIn wsX8_drawn (wsV RX8 204 RX8 yX8_draws wsX8_draws) := goodIn_app (goodIn_of _ (by decide +kernel)) ggX8_drawn_X8_draws
set_option maxRecDepth 20000 in
theorem ggX8_drawn_X8_things : GoodIn wsX8_drawn wsX8_things := goodIn_r _ [138, 31, 32, 33, 7, 34, 3, 5, 6, 8, 143, 144, 145, 146, 147, 148, 149, 150, 151, 152, 153, 154, 155] (by decide +kernel) (by decide +kernel)
set_option maxRecDepth 20000 in
theorem gX8_drawn_X8_things : GoodIn wsX8_drawn (wsV RX8 207 RX8 yX8_things wsX8_things) := goodIn_app (goodIn_of _ (by decide +kernel)) ggX8_drawn_X8_things
set_option maxRecDepth 20000 in
theorem ggX8_drawn_X8_blocks : GoodIn wsX8_drawn wsX8_blocks := goodIn_r _ [142, 3, 143, 144, 145, 146, 147, 148, 149, 150, 151, 152, 153, 154, 155] (by decide +kernel) (by decide +kernel)
set_option maxRecDepth 20000 in
theorem gX8_drawn_X8_blocks : GoodIn wsX8_drawn (wsV RX8 210 RX8 yX8_blocks wsX8_blocks) := goodIn_app (goodIn_of _ (by decide +kernel)) ggX8_drawn_X8_blocks
theorem dX8_drawn_0 : decode cX8_drawn 0 = .ok (.iload_n 2, 1) := by decide +kernel
theorem dX8_drawn_1 : decode cX8_drawn 1 = .ok (.iconst 0, 1) := by decide +kernel
theorem dX8_drawn_2 : decode cX8_drawn 2 = .ok (.bipush 60, 2) := by decide +kernel
theorem dX8_drawn_4 : decode cX8_drawn 4 = .ok (.invokestatic 42, 3) := by decide +kernel
theorem dX8_drawn_7 : decode cX8_drawn 7 = .ok (.ifCond .eq 12, 3) := by decide +kernel
theorem dX8_drawn_10 : decode cX8_drawn 10 = .ok (.iload_n 3, 1) := by decide +kernel
theorem dX8_drawn_11 : decode cX8_drawn 11 = .ok (.iconst 0, 1) := by decide +kernel
theorem dX8_drawn_12 : decode cX8_drawn 12 = .ok (.iconst 3, 1) := by decide +kernel
theorem dX8_drawn_13 : decode cX8_drawn 13 = .ok (.invokestatic 42, 3) := by decide +kernel
theorem dX8_drawn_16 : decode cX8_drawn 16 = .ok (.ifCond .ne 7, 3) := by decide +kernel
theorem dX8_drawn_19 : decode cX8_drawn 19 = .ok (.ldc2_w 134, 3) := by decide +kernel
theorem dX8_drawn_22 : decode cX8_drawn 22 = .ok (.lreturn, 1) := by decide +kernel
theorem dX8_drawn_23 : decode cX8_drawn 23 = .ok (.iconst 0, 1) := by decide +kernel
theorem dX8_drawn_24 : decode cX8_drawn 24 = .ok (.istore 4, 2) := by decide +kernel
theorem dX8_drawn_26 : decode cX8_drawn 26 = .ok (.iload 4, 2) := by decide +kernel
theorem dX8_drawn_28 : decode cX8_drawn 28 = .ok (.sipush 554, 3) := by decide +kernel
theorem dX8_drawn_31 : decode cX8_drawn 31 = .ok (.if_icmp .ge 23, 3) := by decide +kernel
theorem dX8_drawn_34 : decode cX8_drawn 34 = .ok (.aload_n 0, 1) := by decide +kernel
theorem dX8_drawn_35 : decode cX8_drawn 35 = .ok (.getfield 16, 3) := by decide +kernel
theorem dX8_drawn_38 : decode cX8_drawn 38 = .ok (.iload 4, 2) := by decide +kernel
theorem dX8_drawn_40 : decode cX8_drawn 40 = .ok (.aload_n 0, 1) := by decide +kernel
theorem dX8_drawn_41 : decode cX8_drawn 41 = .ok (.getfield 7, 3) := by decide +kernel
theorem dX8_drawn_44 : decode cX8_drawn 44 = .ok (.iload 4, 2) := by decide +kernel
theorem dX8_drawn_46 : decode cX8_drawn 46 = .ok (.iaload, 1) := by decide +kernel
theorem dX8_drawn_47 : decode cX8_drawn 47 = .ok (.iastore, 1) := by decide +kernel
theorem dX8_drawn_48 : decode cX8_drawn 48 = .ok (.iinc 4 1, 3) := by decide +kernel
theorem dX8_drawn_51 : decode cX8_drawn 51 = .ok (.goto (-25), 3) := by decide +kernel
theorem dX8_drawn_54 : decode cX8_drawn 54 = .ok (.aload_n 0, 1) := by decide +kernel
theorem dX8_drawn_55 : decode cX8_drawn 55 = .ok (.iload_n 1, 1) := by decide +kernel
theorem dX8_drawn_56 : decode cX8_drawn 56 = .ok (.putfield 173, 3) := by decide +kernel
theorem dX8_drawn_59 : decode cX8_drawn 59 = .ok (.iconst 0, 1) := by decide +kernel
theorem dX8_drawn_60 : decode cX8_drawn 60 = .ok (.istore 4, 2) := by decide +kernel
theorem dX8_drawn_62 : decode cX8_drawn 62 = .ok (.iload 4, 2) := by decide +kernel
theorem dX8_drawn_64 : decode cX8_drawn 64 = .ok (.iload_n 2, 1) := by decide +kernel
theorem dX8_drawn_65 : decode cX8_drawn 65 = .ok (.if_icmp .ge 37, 3) := by decide +kernel
theorem dX8_drawn_68 : decode cX8_drawn 68 = .ok (.aload_n 0, 1) := by decide +kernel
theorem dX8_drawn_69 : decode cX8_drawn 69 = .ok (.invokevirtual 201, 3) := by decide +kernel
theorem dX8_drawn_72 : decode cX8_drawn 72 = .ok (.istore 5, 2) := by decide +kernel
theorem dX8_drawn_74 : decode cX8_drawn 74 = .ok (.aload_n 0, 1) := by decide +kernel
theorem dX8_drawn_75 : decode cX8_drawn 75 = .ok (.invokevirtual 201, 3) := by decide +kernel
theorem dX8_drawn_78 : decode cX8_drawn 78 = .ok (.istore 6, 2) := by decide +kernel
theorem dX8_drawn_80 : decode cX8_drawn 80 = .ok (.aload_n 0, 1) := by decide +kernel
theorem dX8_drawn_81 : decode cX8_drawn 81 = .ok (.invokevirtual 201, 3) := by decide +kernel
theorem dX8_drawn_84 : decode cX8_drawn 84 = .ok (.istore 7, 2) := by decide +kernel
theorem dX8_drawn_86 : decode cX8_drawn 86 = .ok (.aload_n 0, 1) := by decide +kernel
theorem dX8_drawn_87 : decode cX8_drawn 87 = .ok (.iload 5, 2) := by decide +kernel
theorem dX8_drawn_89 : decode cX8_drawn 89 = .ok (.iload 6, 2) := by decide +kernel
theorem dX8_drawn_91 : decode cX8_drawn 91 = .ok (.iload 7, 2) := by decide +kernel
theorem dX8_drawn_93 : decode cX8_drawn 93 = .ok (.invokevirtual 204, 3) := by decide +kernel
theorem dX8_drawn_96 : decode cX8_drawn 96 = .ok (.iinc 4 1, 3) := by decide +kernel
theorem dX8_drawn_99 : decode cX8_drawn 99 = .ok (.goto (-37), 3) := by decide +kernel
theorem dX8_drawn_102 : decode cX8_drawn 102 = .ok (.lconst 0, 1) := by decide +kernel
theorem dX8_drawn_103 : decode cX8_drawn 103 = .ok (.lstore 4, 2) := by decide +kernel
theorem dX8_drawn_105 : decode cX8_drawn 105 = .ok (.iconst 0, 1) := by decide +kernel
theorem dX8_drawn_106 : decode cX8_drawn 106 = .ok (.istore 6, 2) := by decide +kernel
theorem dX8_drawn_108 : decode cX8_drawn 108 = .ok (.iload 6, 2) := by decide +kernel
theorem dX8_drawn_110 : decode cX8_drawn 110 = .ok (.bipush 96, 2) := by decide +kernel
theorem dX8_drawn_112 : decode cX8_drawn 112 = .ok (.if_icmp .ge 26, 3) := by decide +kernel
theorem dX8_drawn_115 : decode cX8_drawn 115 = .ok (.lload 4, 2) := by decide +kernel
theorem dX8_drawn_117 : decode cX8_drawn 117 = .ok (.aload_n 0, 1) := by decide +kernel
theorem dX8_drawn_118 : decode cX8_drawn 118 = .ok (.getfield 7, 3) := by decide +kernel
theorem dX8_drawn_121 : decode cX8_drawn 121 = .ok (.sipush 362, 3) := by decide +kernel
theorem dX8_drawn_124 : decode cX8_drawn 124 = .ok (.iload 6, 2) := by decide +kernel
theorem dX8_drawn_126 : decode cX8_drawn 126 = .ok (.iadd, 1) := by decide +kernel
theorem dX8_drawn_127 : decode cX8_drawn 127 = .ok (.iaload, 1) := by decide +kernel
theorem dX8_drawn_128 : decode cX8_drawn 128 = .ok (.i2l, 1) := by decide +kernel
theorem dX8_drawn_129 : decode cX8_drawn 129 = .ok (.ladd, 1) := by decide +kernel
theorem dX8_drawn_130 : decode cX8_drawn 130 = .ok (.lstore 4, 2) := by decide +kernel
theorem dX8_drawn_132 : decode cX8_drawn 132 = .ok (.iinc 6 1, 3) := by decide +kernel
theorem dX8_drawn_135 : decode cX8_drawn 135 = .ok (.goto (-27), 3) := by decide +kernel
theorem dX8_drawn_138 : decode cX8_drawn 138 = .ok (.iload_n 3, 1) := by decide +kernel
theorem dX8_drawn_139 : decode cX8_drawn 139 = .ok (.ifCond .ne 11, 3) := by decide +kernel
theorem dX8_drawn_142 : decode cX8_drawn 142 = .ok (.aload_n 0, 1) := by decide +kernel
theorem dX8_drawn_143 : decode cX8_drawn 143 = .ok (.invokevirtual 207, 3) := by decide +kernel
theorem dX8_drawn_146 : decode cX8_drawn 146 = .ok (.i2l, 1) := by decide +kernel
theorem dX8_drawn_147 : decode cX8_drawn 147 = .ok (.goto 40, 3) := by decide +kernel
theorem dX8_drawn_150 : decode cX8_drawn 150 = .ok (.iload_n 3, 1) := by decide +kernel
theorem dX8_drawn_151 : decode cX8_drawn 151 = .ok (.iconst 1, 1) := by decide +kernel
theorem dX8_drawn_152 : decode cX8_drawn 152 = .ok (.if_icmp .ne 11, 3) := by decide +kernel
theorem dX8_drawn_155 : decode cX8_drawn 155 = .ok (.aload_n 0, 1) := by decide +kernel
theorem dX8_drawn_156 : decode cX8_drawn 156 = .ok (.invokevirtual 210, 3) := by decide +kernel
theorem dX8_drawn_159 : decode cX8_drawn 159 = .ok (.i2l, 1) := by decide +kernel
theorem dX8_drawn_160 : decode cX8_drawn 160 = .ok (.goto 27, 3) := by decide +kernel
theorem dX8_drawn_163 : decode cX8_drawn 163 = .ok (.iload_n 3, 1) := by decide +kernel
theorem dX8_drawn_164 : decode cX8_drawn 164 = .ok (.iconst 2, 1) := by decide +kernel
theorem dX8_drawn_165 : decode cX8_drawn 165 = .ok (.if_icmp .ne 20, 3) := by decide +kernel
theorem dX8_drawn_168 : decode cX8_drawn 168 = .ok (.aload_n 0, 1) := by decide +kernel
theorem dX8_drawn_169 : decode cX8_drawn 169 = .ok (.getfield 7, 3) := by decide +kernel
theorem dX8_drawn_172 : decode cX8_drawn 172 = .ok (.iconst 1, 1) := by decide +kernel
theorem dX8_drawn_173 : decode cX8_drawn 173 = .ok (.iaload, 1) := by decide +kernel
theorem dX8_drawn_174 : decode cX8_drawn 174 = .ok (.aload_n 0, 1) := by decide +kernel
theorem dX8_drawn_175 : decode cX8_drawn 175 = .ok (.getfield 16, 3) := by decide +kernel
theorem dX8_drawn_178 : decode cX8_drawn 178 = .ok (.iconst 1, 1) := by decide +kernel
theorem dX8_drawn_179 : decode cX8_drawn 179 = .ok (.iaload, 1) := by decide +kernel
theorem dX8_drawn_180 : decode cX8_drawn 180 = .ok (.isub, 1) := by decide +kernel
theorem dX8_drawn_181 : decode cX8_drawn 181 = .ok (.i2l, 1) := by decide +kernel
theorem dX8_drawn_182 : decode cX8_drawn 182 = .ok (.goto 5, 3) := by decide +kernel
theorem dX8_drawn_185 : decode cX8_drawn 185 = .ok (.lload 4, 2) := by decide +kernel
theorem dX8_drawn_187 : decode cX8_drawn 187 = .ok (.lstore 6, 2) := by decide +kernel
theorem dX8_drawn_189 : decode cX8_drawn 189 = .ok (.iconst 0, 1) := by decide +kernel
theorem dX8_drawn_190 : decode cX8_drawn 190 = .ok (.istore 8, 2) := by decide +kernel
theorem dX8_drawn_192 : decode cX8_drawn 192 = .ok (.iload 8, 2) := by decide +kernel
theorem dX8_drawn_194 : decode cX8_drawn 194 = .ok (.sipush 554, 3) := by decide +kernel
theorem dX8_drawn_197 : decode cX8_drawn 197 = .ok (.if_icmp .ge 23, 3) := by decide +kernel
theorem dX8_drawn_200 : decode cX8_drawn 200 = .ok (.aload_n 0, 1) := by decide +kernel
theorem dX8_drawn_201 : decode cX8_drawn 201 = .ok (.getfield 7, 3) := by decide +kernel
theorem dX8_drawn_204 : decode cX8_drawn 204 = .ok (.iload 8, 2) := by decide +kernel
theorem dX8_drawn_206 : decode cX8_drawn 206 = .ok (.aload_n 0, 1) := by decide +kernel
theorem dX8_drawn_207 : decode cX8_drawn 207 = .ok (.getfield 16, 3) := by decide +kernel
theorem dX8_drawn_210 : decode cX8_drawn 210 = .ok (.iload 8, 2) := by decide +kernel
theorem dX8_drawn_212 : decode cX8_drawn 212 = .ok (.iaload, 1) := by decide +kernel
theorem dX8_drawn_213 : decode cX8_drawn 213 = .ok (.iastore, 1) := by decide +kernel
theorem dX8_drawn_214 : decode cX8_drawn 214 = .ok (.iinc 8 1, 3) := by decide +kernel
theorem dX8_drawn_217 : decode cX8_drawn 217 = .ok (.goto (-25), 3) := by decide +kernel
theorem dX8_drawn_220 : decode cX8_drawn 220 = .ok (.lload 6, 2) := by decide +kernel
theorem dX8_drawn_222 : decode cX8_drawn 222 = .ok (.lreturn, 1) := by decide +kernel
set_option maxRecDepth 20000 in
theorem ggX8_image_X8_things : GoodIn wsX8_image wsX8_things := goodIn_r _ [8, 9, 10, 11, 7, 12, 2, 13, 14, 15, 16, 17, 18, 19, 20, 21, 22, 23, 24, 25, 26, 27, 28] (by decide +kernel) (by decide +kernel)
set_option maxRecDepth 20000 in
theorem gX8_image_X8_things : GoodIn wsX8_image (wsV RX8 207 RX8 yX8_things wsX8_things) := goodIn_app (goodIn_of _ (by decide +kernel)) ggX8_image_X8_things
theorem dX8_image_0 : decode cX8_image 0 = .ok (.iconst 0, 1) := by decide +kernel
theorem dX8_image_1 : decode cX8_image 1 = .ok (.istore_n 1, 1) := by decide +kernel
theorem dX8_image_2 : decode cX8_image 2 = .ok (.iload_n 1, 1) := by decide +kernel
theorem dX8_image_3 : decode cX8_image 3 = .ok (.sipush 554, 3) := by decide +kernel
theorem dX8_image_6 : decode cX8_image 6 = .ok (.if_icmp .ge 21, 3) := by decide +kernel
theorem dX8_image_9 : decode cX8_image 9 = .ok (.aload_n 0, 1) := by decide +kernel
theorem dX8_image_10 : decode cX8_image 10 = .ok (.getfield 13, 3) := by decide +kernel
theorem dX8_image_13 : decode cX8_image 13 = .ok (.iload_n 1, 1) := by decide +kernel
theorem dX8_image_14 : decode cX8_image 14 = .ok (.aload_n 0, 1) := by decide +kernel
theorem dX8_image_15 : decode cX8_image 15 = .ok (.getfield 7, 3) := by decide +kernel
theorem dX8_image_18 : decode cX8_image 18 = .ok (.iload_n 1, 1) := by decide +kernel
theorem dX8_image_19 : decode cX8_image 19 = .ok (.iaload, 1) := by decide +kernel
theorem dX8_image_20 : decode cX8_image 20 = .ok (.iastore, 1) := by decide +kernel
theorem dX8_image_21 : decode cX8_image 21 = .ok (.iinc 1 1, 3) := by decide +kernel
theorem dX8_image_24 : decode cX8_image 24 = .ok (.goto (-22), 3) := by decide +kernel
theorem dX8_image_27 : decode cX8_image 27 = .ok (.aload_n 0, 1) := by decide +kernel
theorem dX8_image_28 : decode cX8_image 28 = .ok (.iconst 1, 1) := by decide +kernel
theorem dX8_image_29 : decode cX8_image 29 = .ok (.putfield 213, 3) := by decide +kernel
theorem dX8_image_32 : decode cX8_image 32 = .ok (.aload_n 0, 1) := by decide +kernel
theorem dX8_image_33 : decode cX8_image 33 = .ok (.invokevirtual 207, 3) := by decide +kernel
theorem dX8_image_36 : decode cX8_image 36 = .ok (.ireturn, 1) := by decide +kernel
set_option maxRecDepth 20000 in
theorem ggX8_back_X8_things : GoodIn wsX8_back wsX8_things := goodIn_r _ [8, 9, 10, 11, 7, 12, 2, 13, 14, 15, 16, 17, 18, 19, 20, 21, 22, 23, 24, 25, 26, 27, 28] (by decide +kernel) (by decide +kernel)
set_option maxRecDepth 20000 in
theorem gX8_back_X8_things : GoodIn wsX8_back (wsV RX8 207 RX8 yX8_things wsX8_things) := goodIn_app (goodIn_of _ (by decide +kernel)) ggX8_back_X8_things
theorem dX8_back_0 : decode cX8_back 0 = .ok (.aload_n 0, 1) := by decide +kernel
theorem dX8_back_1 : decode cX8_back 1 = .ok (.getfield 213, 3) := by decide +kernel
theorem dX8_back_4 : decode cX8_back 4 = .ok (.ifCond .ne 6, 3) := by decide +kernel
theorem dX8_back_7 : decode cX8_back 7 = .ok (.bipush (-3), 2) := by decide +kernel
theorem dX8_back_9 : decode cX8_back 9 = .ok (.ireturn, 1) := by decide +kernel
theorem dX8_back_10 : decode cX8_back 10 = .ok (.iconst 0, 1) := by decide +kernel
theorem dX8_back_11 : decode cX8_back 11 = .ok (.istore_n 1, 1) := by decide +kernel
theorem dX8_back_12 : decode cX8_back 12 = .ok (.iload_n 1, 1) := by decide +kernel
theorem dX8_back_13 : decode cX8_back 13 = .ok (.sipush 554, 3) := by decide +kernel
theorem dX8_back_16 : decode cX8_back 16 = .ok (.if_icmp .ge 21, 3) := by decide +kernel
theorem dX8_back_19 : decode cX8_back 19 = .ok (.aload_n 0, 1) := by decide +kernel
theorem dX8_back_20 : decode cX8_back 20 = .ok (.getfield 7, 3) := by decide +kernel
theorem dX8_back_23 : decode cX8_back 23 = .ok (.iload_n 1, 1) := by decide +kernel
theorem dX8_back_24 : decode cX8_back 24 = .ok (.aload_n 0, 1) := by decide +kernel
theorem dX8_back_25 : decode cX8_back 25 = .ok (.getfield 13, 3) := by decide +kernel
theorem dX8_back_28 : decode cX8_back 28 = .ok (.iload_n 1, 1) := by decide +kernel
theorem dX8_back_29 : decode cX8_back 29 = .ok (.iaload, 1) := by decide +kernel
theorem dX8_back_30 : decode cX8_back 30 = .ok (.iastore, 1) := by decide +kernel
theorem dX8_back_31 : decode cX8_back 31 = .ok (.iinc 1 1, 3) := by decide +kernel
theorem dX8_back_34 : decode cX8_back 34 = .ok (.goto (-22), 3) := by decide +kernel
theorem dX8_back_37 : decode cX8_back 37 = .ok (.aload_n 0, 1) := by decide +kernel
theorem dX8_back_38 : decode cX8_back 38 = .ok (.invokevirtual 207, 3) := by decide +kernel
theorem dX8_back_41 : decode cX8_back 41 = .ok (.ireturn, 1) := by decide +kernel
set_option maxRecDepth 20000 in
theorem ggX8_count_X8_things : GoodIn wsX8_count wsX8_things := goodIn_r _ [6, 7, 8, 9, 5, 10, 1, 11, 12, 13, 18, 19, 20, 21, 22, 23, 24, 25, 26, 27, 28, 29, 30] (by decide +kernel) (by decide +kernel)
set_option maxRecDepth 20000 in
theorem gX8_count_X8_things : GoodIn wsX8_count (wsV RX8 207 RX8 yX8_things wsX8_things) := goodIn_app (goodIn_of _ (by decide +kernel)) ggX8_count_X8_things
set_option maxRecDepth 20000 in
theorem ggX8_count_X8_blocks : GoodIn wsX8_count wsX8_blocks := goodIn_r _ [17, 1, 18, 19, 20, 21, 22, 23, 24, 25, 26, 27, 28, 29, 30] (by decide +kernel) (by decide +kernel)
set_option maxRecDepth 20000 in
theorem gX8_count_X8_blocks : GoodIn wsX8_count (wsV RX8 210 RX8 yX8_blocks wsX8_blocks) := goodIn_app (goodIn_of _ (by decide +kernel)) ggX8_count_X8_blocks
theorem dX8_count_0 : decode cX8_count 0 = .ok (.iload_n 1, 1) := by decide +kernel
theorem dX8_count_1 : decode cX8_count 1 = .ok (.tableswitch 55 0 3 #[31, 36, 41, 48], 31) := by decide +kernel
theorem dX8_count_32 : decode cX8_count 32 = .ok (.aload_n 0, 1) := by decide +kernel
theorem dX8_count_33 : decode cX8_count 33 = .ok (.invokevirtual 207, 3) := by decide +kernel
theorem dX8_count_36 : decode cX8_count 36 = .ok (.ireturn, 1) := by decide +kernel
theorem dX8_count_37 : decode cX8_count 37 = .ok (.aload_n 0, 1) := by decide +kernel
theorem dX8_count_38 : decode cX8_count 38 = .ok (.invokevirtual 210, 3) := by decide +kernel
theorem dX8_count_41 : decode cX8_count 41 = .ok (.ireturn, 1) := by decide +kernel
theorem dX8_count_42 : decode cX8_count 42 = .ok (.aload_n 0, 1) := by decide +kernel
theorem dX8_count_43 : decode cX8_count 43 = .ok (.getfield 7, 3) := by decide +kernel
theorem dX8_count_46 : decode cX8_count 46 = .ok (.iconst 0, 1) := by decide +kernel
theorem dX8_count_47 : decode cX8_count 47 = .ok (.iaload, 1) := by decide +kernel
theorem dX8_count_48 : decode cX8_count 48 = .ok (.ireturn, 1) := by decide +kernel
theorem dX8_count_49 : decode cX8_count 49 = .ok (.aload_n 0, 1) := by decide +kernel
theorem dX8_count_50 : decode cX8_count 50 = .ok (.getfield 7, 3) := by decide +kernel
theorem dX8_count_53 : decode cX8_count 53 = .ok (.iconst 1, 1) := by decide +kernel
theorem dX8_count_54 : decode cX8_count 54 = .ok (.iaload, 1) := by decide +kernel
theorem dX8_count_55 : decode cX8_count 55 = .ok (.ireturn, 1) := by decide +kernel
theorem dX8_count_56 : decode cX8_count 56 = .ok (.bipush (-2), 2) := by decide +kernel
theorem dX8_count_58 : decode cX8_count 58 = .ok (.ireturn, 1) := by decide +kernel
