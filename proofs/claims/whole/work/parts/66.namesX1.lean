set_option maxRecDepth 20000 in
theorem ggX1_init_X2_init : GoodIn wsX1_init wsX2_init := goodIn_r _ [15, 16, 2, 3, 17, 9, 18, 23, 24] (by decide +kernel) (by decide +kernel)
set_option maxRecDepth 20000 in
theorem gX1_init_X2_init : GoodIn wsX1_init (wsX2_init) := ggX1_init_X2_init
theorem dX1_init_0 : decode cX1_init 0 = .ok (.aload_n 0, 1) := by decide +kernel
theorem dX1_init_1 : decode cX1_init 1 = .ok (.invokespecial 3, 3) := by decide +kernel
theorem dX1_init_4 : decode cX1_init 4 = .ok (.aload_n 0, 1) := by decide +kernel
theorem dX1_init_5 : decode cX1_init 5 = .ok (.aload_n 1, 1) := by decide +kernel
theorem dX1_init_6 : decode cX1_init 6 = .ok (.putfield 9, 3) := by decide +kernel
theorem dX1_init_9 : decode cX1_init 9 = .ok (.aload_n 0, 1) := by decide +kernel
theorem dX1_init_10 : decode cX1_init 10 = .ok (.new 15, 3) := by decide +kernel
theorem dX1_init_13 : decode cX1_init 13 = .ok (.dup, 1) := by decide +kernel
theorem dX1_init_14 : decode cX1_init 14 = .ok (.aload_n 1, 1) := by decide +kernel
theorem dX1_init_15 : decode cX1_init 15 = .ok (.invokespecial 17, 3) := by decide +kernel
theorem dX1_init_18 : decode cX1_init 18 = .ok (.putfield 20, 3) := by decide +kernel
theorem dX1_init_21 : decode cX1_init 21 = .ok (.aload_n 0, 1) := by decide +kernel
theorem dX1_init_22 : decode cX1_init 22 = .ok (.bipush 8, 2) := by decide +kernel
theorem dX1_init_24 : decode cX1_init 24 = .ok (.newarray .int, 2) := by decide +kernel
theorem dX1_init_26 : decode cX1_init 26 = .ok (.putfield 24, 3) := by decide +kernel
theorem dX1_init_29 : decode cX1_init 29 = .ok (.aload_n 0, 1) := by decide +kernel
theorem dX1_init_30 : decode cX1_init 30 = .ok (.sipush 256, 3) := by decide +kernel
theorem dX1_init_33 : decode cX1_init 33 = .ok (.newarray .long, 2) := by decide +kernel
theorem dX1_init_35 : decode cX1_init 35 = .ok (.putfield 28, 3) := by decide +kernel
theorem dX1_init_38 : decode cX1_init 38 = .ok (.return_, 1) := by decide +kernel
set_option maxRecDepth 20000 in
theorem ggX1_mostFreed_X1_weigh : GoodIn wsX1_mostFreed wsX1_weigh := goodIn_r _ [10, 1, 11, 12, 13, 14, 15, 9, 16, 17, 18, 4, 19, 20, 21, 22, 23, 24, 25, 26, 27, 28, 29, 30, 31, 32, 33, 34, 35, 36, 37, 38, 39, 40, 41, 42, 43, 44, 45, 46, 47, 48, 49, 50, 51, 52, 53, 54, 55, 56, 57, 58, 59, 60, 61, 62, 63, 64, 65, 66, 67, 68, 69, 70, 71, 72, 73, 74, 75, 76, 77, 78, 79, 80, 81, 82, 83, 84, 85, 86, 94, 95, 96, 97, 98, 99, 100, 101, 102, 103, 104, 105, 106, 107, 108, 109, 110] (by decide +kernel) (by decide +kernel)
set_option maxRecDepth 20000 in
theorem gX1_mostFreed_X1_weigh : GoodIn wsX1_mostFreed (wsV RX1 32 RX1 yX1_weigh wsX1_weigh) := goodIn_app (goodIn_of _ (by decide +kernel)) ggX1_mostFreed_X1_weigh
set_option maxRecDepth 20000 in
theorem ggX1_mostFreed_J6_bitCount_0f7a4 : GoodIn wsX1_mostFreed wsJ6_bitCount_0f7a4 := goodIn_r _ [90, 91, 92, 93] (by decide +kernel) (by decide +kernel)
set_option maxRecDepth 20000 in
theorem gX1_mostFreed_J6_bitCount_0f7a4 : GoodIn wsX1_mostFreed (va_wsS RX1 36 yJ6_bitCount_0f7a4 wsJ6_bitCount_0f7a4) := goodIn_app (goodIn_of _ (by decide +kernel)) ggX1_mostFreed_J6_bitCount_0f7a4
theorem dX1_mostFreed_0 : decode cX1_mostFreed 0 = .ok (.aload_n 0, 1) := by decide +kernel
theorem dX1_mostFreed_1 : decode cX1_mostFreed 1 = .ok (.iload_n 1, 1) := by decide +kernel
theorem dX1_mostFreed_2 : decode cX1_mostFreed 2 = .ok (.invokevirtual 32, 3) := by decide +kernel
theorem dX1_mostFreed_5 : decode cX1_mostFreed 5 = .ok (.lconst 0, 1) := by decide +kernel
theorem dX1_mostFreed_6 : decode cX1_mostFreed 6 = .ok (.lstore_n 3, 1) := by decide +kernel
theorem dX1_mostFreed_7 : decode cX1_mostFreed 7 = .ok (.iconst 0, 1) := by decide +kernel
theorem dX1_mostFreed_8 : decode cX1_mostFreed 8 = .ok (.istore 5, 2) := by decide +kernel
theorem dX1_mostFreed_10 : decode cX1_mostFreed 10 = .ok (.iload 5, 2) := by decide +kernel
theorem dX1_mostFreed_12 : decode cX1_mostFreed 12 = .ok (.sipush 256, 3) := by decide +kernel
theorem dX1_mostFreed_15 : decode cX1_mostFreed 15 = .ok (.if_icmp .ge 30, 3) := by decide +kernel
theorem dX1_mostFreed_18 : decode cX1_mostFreed 18 = .ok (.iload 5, 2) := by decide +kernel
theorem dX1_mostFreed_20 : decode cX1_mostFreed 20 = .ok (.invokestatic 36, 3) := by decide +kernel
theorem dX1_mostFreed_23 : decode cX1_mostFreed 23 = .ok (.iload_n 2, 1) := by decide +kernel
theorem dX1_mostFreed_24 : decode cX1_mostFreed 24 = .ok (.if_icmp .gt 15, 3) := by decide +kernel
theorem dX1_mostFreed_27 : decode cX1_mostFreed 27 = .ok (.lload_n 3, 1) := by decide +kernel
theorem dX1_mostFreed_28 : decode cX1_mostFreed 28 = .ok (.aload_n 0, 1) := by decide +kernel
theorem dX1_mostFreed_29 : decode cX1_mostFreed 29 = .ok (.getfield 28, 3) := by decide +kernel
theorem dX1_mostFreed_32 : decode cX1_mostFreed 32 = .ok (.iload 5, 2) := by decide +kernel
theorem dX1_mostFreed_34 : decode cX1_mostFreed 34 = .ok (.laload, 1) := by decide +kernel
theorem dX1_mostFreed_35 : decode cX1_mostFreed 35 = .ok (.invokestatic 42, 3) := by decide +kernel
theorem dX1_mostFreed_38 : decode cX1_mostFreed 38 = .ok (.lstore_n 3, 1) := by decide +kernel
theorem dX1_mostFreed_39 : decode cX1_mostFreed 39 = .ok (.iinc 5 1, 3) := by decide +kernel
theorem dX1_mostFreed_42 : decode cX1_mostFreed 42 = .ok (.goto (-32), 3) := by decide +kernel
theorem dX1_mostFreed_45 : decode cX1_mostFreed 45 = .ok (.lload_n 3, 1) := by decide +kernel
theorem dX1_mostFreed_46 : decode cX1_mostFreed 46 = .ok (.lreturn, 1) := by decide +kernel
set_option maxRecDepth 20000 in
theorem ggX1_fewestFor_X1_weigh : GoodIn wsX1_fewestFor wsX1_weigh := goodIn_r _ [6, 1, 7, 8, 9, 10, 11, 5, 12, 13, 14, 15, 16, 17, 18, 19, 20, 21, 22, 23, 24, 25, 26, 27, 28, 29, 30, 31, 32, 33, 34, 35, 36, 37, 38, 39, 40, 41, 42, 43, 44, 45, 46, 47, 48, 49, 50, 51, 52, 53, 54, 55, 56, 57, 58, 59, 60, 61, 62, 63, 64, 65, 66, 67, 68, 69, 70, 71, 72, 73, 74, 75, 76, 77, 78, 79, 80, 81, 82, 83, 91, 92, 93, 94, 95, 96, 97, 98, 99, 100, 101, 102, 103, 104, 105, 106, 107] (by decide +kernel) (by decide +kernel)
set_option maxRecDepth 20000 in
theorem gX1_fewestFor_X1_weigh : GoodIn wsX1_fewestFor (wsV RX1 32 RX1 yX1_weigh wsX1_weigh) := goodIn_app (goodIn_of _ (by decide +kernel)) ggX1_fewestFor_X1_weigh
set_option maxRecDepth 20000 in
theorem ggX1_fewestFor_J6_bitCount_0f7a4 : GoodIn wsX1_fewestFor wsJ6_bitCount_0f7a4 := goodIn_r _ [87, 88, 89, 90] (by decide +kernel) (by decide +kernel)
set_option maxRecDepth 20000 in
theorem gX1_fewestFor_J6_bitCount_0f7a4 : GoodIn wsX1_fewestFor (va_wsS RX1 36 yJ6_bitCount_0f7a4 wsJ6_bitCount_0f7a4) := goodIn_app (goodIn_of _ (by decide +kernel)) ggX1_fewestFor_J6_bitCount_0f7a4
theorem dX1_fewestFor_0 : decode cX1_fewestFor 0 = .ok (.lload_n 2, 1) := by decide +kernel
theorem dX1_fewestFor_1 : decode cX1_fewestFor 1 = .ok (.lconst 0, 1) := by decide +kernel
theorem dX1_fewestFor_2 : decode cX1_fewestFor 2 = .ok (.lcmp, 1) := by decide +kernel
theorem dX1_fewestFor_3 : decode cX1_fewestFor 3 = .ok (.ifCond .gt 5, 3) := by decide +kernel
theorem dX1_fewestFor_6 : decode cX1_fewestFor 6 = .ok (.iconst 0, 1) := by decide +kernel
theorem dX1_fewestFor_7 : decode cX1_fewestFor 7 = .ok (.ireturn, 1) := by decide +kernel
theorem dX1_fewestFor_8 : decode cX1_fewestFor 8 = .ok (.aload_n 0, 1) := by decide +kernel
theorem dX1_fewestFor_9 : decode cX1_fewestFor 9 = .ok (.iload_n 1, 1) := by decide +kernel
theorem dX1_fewestFor_10 : decode cX1_fewestFor 10 = .ok (.invokevirtual 32, 3) := by decide +kernel
theorem dX1_fewestFor_13 : decode cX1_fewestFor 13 = .ok (.iconst (-1), 1) := by decide +kernel
theorem dX1_fewestFor_14 : decode cX1_fewestFor 14 = .ok (.istore 4, 2) := by decide +kernel
theorem dX1_fewestFor_16 : decode cX1_fewestFor 16 = .ok (.iconst 0, 1) := by decide +kernel
theorem dX1_fewestFor_17 : decode cX1_fewestFor 17 = .ok (.istore 5, 2) := by decide +kernel
theorem dX1_fewestFor_19 : decode cX1_fewestFor 19 = .ok (.iload 5, 2) := by decide +kernel
theorem dX1_fewestFor_21 : decode cX1_fewestFor 21 = .ok (.sipush 256, 3) := by decide +kernel
theorem dX1_fewestFor_24 : decode cX1_fewestFor 24 = .ok (.if_icmp .ge 45, 3) := by decide +kernel
theorem dX1_fewestFor_27 : decode cX1_fewestFor 27 = .ok (.iload 5, 2) := by decide +kernel
theorem dX1_fewestFor_29 : decode cX1_fewestFor 29 = .ok (.invokestatic 36, 3) := by decide +kernel
theorem dX1_fewestFor_32 : decode cX1_fewestFor 32 = .ok (.istore 6, 2) := by decide +kernel
theorem dX1_fewestFor_34 : decode cX1_fewestFor 34 = .ok (.aload_n 0, 1) := by decide +kernel
theorem dX1_fewestFor_35 : decode cX1_fewestFor 35 = .ok (.getfield 28, 3) := by decide +kernel
theorem dX1_fewestFor_38 : decode cX1_fewestFor 38 = .ok (.iload 5, 2) := by decide +kernel
theorem dX1_fewestFor_40 : decode cX1_fewestFor 40 = .ok (.laload, 1) := by decide +kernel
theorem dX1_fewestFor_41 : decode cX1_fewestFor 41 = .ok (.lload_n 2, 1) := by decide +kernel
theorem dX1_fewestFor_42 : decode cX1_fewestFor 42 = .ok (.lcmp, 1) := by decide +kernel
theorem dX1_fewestFor_43 : decode cX1_fewestFor 43 = .ok (.ifCond .lt 20, 3) := by decide +kernel
theorem dX1_fewestFor_46 : decode cX1_fewestFor 46 = .ok (.iload 4, 2) := by decide +kernel
theorem dX1_fewestFor_48 : decode cX1_fewestFor 48 = .ok (.iconst (-1), 1) := by decide +kernel
theorem dX1_fewestFor_49 : decode cX1_fewestFor 49 = .ok (.if_icmp .eq 10, 3) := by decide +kernel
theorem dX1_fewestFor_52 : decode cX1_fewestFor 52 = .ok (.iload 6, 2) := by decide +kernel
theorem dX1_fewestFor_54 : decode cX1_fewestFor 54 = .ok (.iload 4, 2) := by decide +kernel
theorem dX1_fewestFor_56 : decode cX1_fewestFor 56 = .ok (.if_icmp .ge 7, 3) := by decide +kernel
theorem dX1_fewestFor_59 : decode cX1_fewestFor 59 = .ok (.iload 6, 2) := by decide +kernel
theorem dX1_fewestFor_61 : decode cX1_fewestFor 61 = .ok (.istore 4, 2) := by decide +kernel
theorem dX1_fewestFor_63 : decode cX1_fewestFor 63 = .ok (.iinc 5 1, 3) := by decide +kernel
theorem dX1_fewestFor_66 : decode cX1_fewestFor 66 = .ok (.goto (-47), 3) := by decide +kernel
theorem dX1_fewestFor_69 : decode cX1_fewestFor 69 = .ok (.iload 4, 2) := by decide +kernel
theorem dX1_fewestFor_71 : decode cX1_fewestFor 71 = .ok (.ireturn, 1) := by decide +kernel
set_option maxRecDepth 20000 in
theorem ggX1_weigh_X1_findCandidates : GoodIn wsX1_weigh wsX1_findCandidates := goodIn_r _ [8, 3, 9, 10, 11, 12, 13, 14, 15, 16, 17, 18, 19, 20, 21, 22, 23, 24, 25, 26, 27, 28, 29, 30, 31, 32, 33, 34, 35, 36, 37, 38, 39, 40, 41, 42, 43, 44, 45, 46, 47, 48, 49, 50, 80, 81, 82, 83, 84, 85, 86, 87, 88, 89, 90, 91, 92, 93, 94] (by decide +kernel) (by decide +kernel)
set_option maxRecDepth 20000 in
theorem gX1_weigh_X1_findCandidates : GoodIn wsX1_weigh (wsV RX1 48 RX1 yX1_findCandidates wsX1_findCandidates) := goodIn_app (goodIn_of _ (by decide +kernel)) ggX1_weigh_X1_findCandidates
set_option maxRecDepth 20000 in
theorem ggX1_weigh_X2_look : GoodIn wsX1_weigh wsX2_look := goodIn_r _ [55, 56, 57, 58, 59, 60, 17, 61, 62, 95, 96, 84, 85, 86, 87, 88, 89, 90, 91, 92, 93, 94] (by decide +kernel) (by decide +kernel)
set_option maxRecDepth 20000 in
theorem gX1_weigh_X2_look : GoodIn wsX1_weigh (wsV RX1 51 RX2 yX2_look wsX2_look) := goodIn_app (goodIn_of _ (by decide +kernel)) ggX1_weigh_X2_look
set_option maxRecDepth 20000 in
theorem ggX1_weigh_X2_setOf : GoodIn wsX1_weigh wsX2_setOf := goodIn_r _ [66, 56, 95, 96] (by decide +kernel) (by decide +kernel)
set_option maxRecDepth 20000 in
theorem gX1_weigh_X2_setOf : GoodIn wsX1_weigh (wsV RX1 54 RX2 yX2_setOf wsX2_setOf) := goodIn_app (goodIn_of _ (by decide +kernel)) ggX1_weigh_X2_setOf
set_option maxRecDepth 20000 in
theorem ggX1_weigh_X1_candidatesAlone : GoodIn wsX1_weigh wsX1_candidatesAlone := goodIn_r _ [70, 13, 80, 81, 82, 83] (by decide +kernel) (by decide +kernel)
set_option maxRecDepth 20000 in
theorem gX1_weigh_X1_candidatesAlone : GoodIn wsX1_weigh (wsV RX1 57 RX1 yX1_candidatesAlone wsX1_candidatesAlone) := goodIn_app (goodIn_of _ (by decide +kernel)) ggX1_weigh_X1_candidatesAlone
set_option maxRecDepth 20000 in
theorem ggX1_weigh_X4_sizeOf : GoodIn wsX1_weigh wsX4_sizeOf := goodIn_r _ [74, 75, 84, 85, 86, 87, 88, 89, 90, 91, 92, 93, 94] (by decide +kernel) (by decide +kernel)
set_option maxRecDepth 20000 in
theorem gX1_weigh_X4_sizeOf : GoodIn wsX1_weigh (wsV RX1 61 RX4 yX4_sizeOf wsX4_sizeOf) := goodIn_app (goodIn_of _ (by decide +kernel)) ggX1_weigh_X4_sizeOf
set_option maxRecDepth 20000 in
theorem ggX1_weigh_X1_addSubsets : GoodIn wsX1_weigh wsX1_addSubsets := goodIn_r _ [79, 1, 80, 81, 82, 83] (by decide +kernel) (by decide +kernel)
set_option maxRecDepth 20000 in
theorem gX1_weigh_X1_addSubsets : GoodIn wsX1_weigh (wsV RX1 66 RX1 yX1_addSubsets wsX1_addSubsets) := goodIn_app (goodIn_of _ (by decide +kernel)) ggX1_weigh_X1_addSubsets
theorem dX1_weigh_0 : decode cX1_weigh 0 = .ok (.aload_n 0, 1) := by decide +kernel
theorem dX1_weigh_1 : decode cX1_weigh 1 = .ok (.iload_n 1, 1) := by decide +kernel
theorem dX1_weigh_2 : decode cX1_weigh 2 = .ok (.invokevirtual 48, 3) := by decide +kernel
theorem dX1_weigh_5 : decode cX1_weigh 5 = .ok (.istore_n 2, 1) := by decide +kernel
theorem dX1_weigh_6 : decode cX1_weigh 6 = .ok (.iconst 0, 1) := by decide +kernel
theorem dX1_weigh_7 : decode cX1_weigh 7 = .ok (.istore_n 3, 1) := by decide +kernel
theorem dX1_weigh_8 : decode cX1_weigh 8 = .ok (.iload_n 3, 1) := by decide +kernel
theorem dX1_weigh_9 : decode cX1_weigh 9 = .ok (.sipush 256, 3) := by decide +kernel
theorem dX1_weigh_12 : decode cX1_weigh 12 = .ok (.if_icmp .ge 16, 3) := by decide +kernel
theorem dX1_weigh_15 : decode cX1_weigh 15 = .ok (.aload_n 0, 1) := by decide +kernel
theorem dX1_weigh_16 : decode cX1_weigh 16 = .ok (.getfield 28, 3) := by decide +kernel
theorem dX1_weigh_19 : decode cX1_weigh 19 = .ok (.iload_n 3, 1) := by decide +kernel
theorem dX1_weigh_20 : decode cX1_weigh 20 = .ok (.lconst 0, 1) := by decide +kernel
theorem dX1_weigh_21 : decode cX1_weigh 21 = .ok (.lastore, 1) := by decide +kernel
theorem dX1_weigh_22 : decode cX1_weigh 22 = .ok (.iinc 3 1, 3) := by decide +kernel
theorem dX1_weigh_25 : decode cX1_weigh 25 = .ok (.goto (-17), 3) := by decide +kernel
theorem dX1_weigh_28 : decode cX1_weigh 28 = .ok (.aload_n 0, 1) := by decide +kernel
theorem dX1_weigh_29 : decode cX1_weigh 29 = .ok (.getfield 20, 3) := by decide +kernel
theorem dX1_weigh_32 : decode cX1_weigh 32 = .ok (.invokevirtual 51, 3) := by decide +kernel
theorem dX1_weigh_35 : decode cX1_weigh 35 = .ok (.iconst 0, 1) := by decide +kernel
theorem dX1_weigh_36 : decode cX1_weigh 36 = .ok (.istore_n 3, 1) := by decide +kernel
theorem dX1_weigh_37 : decode cX1_weigh 37 = .ok (.iload_n 3, 1) := by decide +kernel
theorem dX1_weigh_38 : decode cX1_weigh 38 = .ok (.bipush 96, 2) := by decide +kernel
theorem dX1_weigh_40 : decode cX1_weigh 40 = .ok (.if_icmp .ge 57, 3) := by decide +kernel
theorem dX1_weigh_43 : decode cX1_weigh 43 = .ok (.aload_n 0, 1) := by decide +kernel
theorem dX1_weigh_44 : decode cX1_weigh 44 = .ok (.aload_n 0, 1) := by decide +kernel
theorem dX1_weigh_45 : decode cX1_weigh 45 = .ok (.getfield 20, 3) := by decide +kernel
theorem dX1_weigh_48 : decode cX1_weigh 48 = .ok (.iload_n 3, 1) := by decide +kernel
theorem dX1_weigh_49 : decode cX1_weigh 49 = .ok (.invokevirtual 54, 3) := by decide +kernel
theorem dX1_weigh_52 : decode cX1_weigh 52 = .ok (.iload_n 2, 1) := by decide +kernel
theorem dX1_weigh_53 : decode cX1_weigh 53 = .ok (.invokevirtual 57, 3) := by decide +kernel
theorem dX1_weigh_56 : decode cX1_weigh 56 = .ok (.istore 4, 2) := by decide +kernel
theorem dX1_weigh_58 : decode cX1_weigh 58 = .ok (.iload 4, 2) := by decide +kernel
theorem dX1_weigh_60 : decode cX1_weigh 60 = .ok (.iconst (-1), 1) := by decide +kernel
theorem dX1_weigh_61 : decode cX1_weigh 61 = .ok (.if_icmp .eq 30, 3) := by decide +kernel
theorem dX1_weigh_64 : decode cX1_weigh 64 = .ok (.iload 4, 2) := by decide +kernel
theorem dX1_weigh_66 : decode cX1_weigh 66 = .ok (.sipush 256, 3) := by decide +kernel
theorem dX1_weigh_69 : decode cX1_weigh 69 = .ok (.if_icmp .ge 22, 3) := by decide +kernel
theorem dX1_weigh_72 : decode cX1_weigh 72 = .ok (.aload_n 0, 1) := by decide +kernel
theorem dX1_weigh_73 : decode cX1_weigh 73 = .ok (.getfield 28, 3) := by decide +kernel
theorem dX1_weigh_76 : decode cX1_weigh 76 = .ok (.iload 4, 2) := by decide +kernel
theorem dX1_weigh_78 : decode cX1_weigh 78 = .ok (.dup2, 1) := by decide +kernel
theorem dX1_weigh_79 : decode cX1_weigh 79 = .ok (.laload, 1) := by decide +kernel
theorem dX1_weigh_80 : decode cX1_weigh 80 = .ok (.aload_n 0, 1) := by decide +kernel
theorem dX1_weigh_81 : decode cX1_weigh 81 = .ok (.getfield 9, 3) := by decide +kernel
theorem dX1_weigh_84 : decode cX1_weigh 84 = .ok (.iload_n 3, 1) := by decide +kernel
theorem dX1_weigh_85 : decode cX1_weigh 85 = .ok (.invokevirtual 61, 3) := by decide +kernel
theorem dX1_weigh_88 : decode cX1_weigh 88 = .ok (.i2l, 1) := by decide +kernel
theorem dX1_weigh_89 : decode cX1_weigh 89 = .ok (.ladd, 1) := by decide +kernel
theorem dX1_weigh_90 : decode cX1_weigh 90 = .ok (.lastore, 1) := by decide +kernel
theorem dX1_weigh_91 : decode cX1_weigh 91 = .ok (.iinc 3 1, 3) := by decide +kernel
theorem dX1_weigh_94 : decode cX1_weigh 94 = .ok (.goto (-57), 3) := by decide +kernel
theorem dX1_weigh_97 : decode cX1_weigh 97 = .ok (.aload_n 0, 1) := by decide +kernel
theorem dX1_weigh_98 : decode cX1_weigh 98 = .ok (.iload_n 2, 1) := by decide +kernel
theorem dX1_weigh_99 : decode cX1_weigh 99 = .ok (.invokevirtual 66, 3) := by decide +kernel
theorem dX1_weigh_102 : decode cX1_weigh 102 = .ok (.return_, 1) := by decide +kernel
set_option maxRecDepth 20000 in
theorem ggX1_findCandidates_X4_ownCount : GoodIn wsX1_findCandidates wsX4_ownCount := goodIn_r _ [11, 12, 48, 49, 50, 51, 52, 53, 54, 55, 56, 57, 58] (by decide +kernel) (by decide +kernel)
set_option maxRecDepth 20000 in
theorem gX1_findCandidates_X4_ownCount : GoodIn wsX1_findCandidates (wsV RX1 69 RX4 yX4_ownCount wsX4_ownCount) := goodIn_app (goodIn_of _ (by decide +kernel)) ggX1_findCandidates_X4_ownCount
set_option maxRecDepth 20000 in
theorem ggX1_findCandidates_X4_inChain : GoodIn wsX1_findCandidates wsX4_inChain := goodIn_r _ [16, 17, 18, 19, 10, 20, 21, 48, 49, 50, 51, 52, 53, 54, 55, 56, 57, 58] (by decide +kernel) (by decide +kernel)
set_option maxRecDepth 20000 in
theorem gX1_findCandidates_X4_inChain : GoodIn wsX1_findCandidates (wsV RX1 75 RX4 yX4_inChain wsX4_inChain) := goodIn_app (goodIn_of _ (by decide +kernel)) ggX1_findCandidates_X4_inChain
set_option maxRecDepth 20000 in
theorem ggX1_findCandidates_X4_isLoose : GoodIn wsX1_findCandidates wsX4_isLoose := goodIn_r _ [25, 26, 27, 28, 10, 29, 30, 31, 32, 33, 34, 35, 36, 37, 38, 39, 40, 41, 42, 43, 21, 48, 49, 50, 51, 52, 53, 54, 55, 56, 57, 58] (by decide +kernel) (by decide +kernel)
set_option maxRecDepth 20000 in
theorem gX1_findCandidates_X4_isLoose : GoodIn wsX1_findCandidates (wsV RX1 78 RX4 yX4_isLoose wsX4_isLoose) := goodIn_app (goodIn_of _ (by decide +kernel)) ggX1_findCandidates_X4_isLoose
theorem dX1_findCandidates_0 : decode cX1_findCandidates 0 = .ok (.aload_n 0, 1) := by decide +kernel
theorem dX1_findCandidates_1 : decode cX1_findCandidates 1 = .ok (.getfield 9, 3) := by decide +kernel
theorem dX1_findCandidates_4 : decode cX1_findCandidates 4 = .ok (.iload_n 1, 1) := by decide +kernel
theorem dX1_findCandidates_5 : decode cX1_findCandidates 5 = .ok (.invokevirtual 69, 3) := by decide +kernel
theorem dX1_findCandidates_8 : decode cX1_findCandidates 8 = .ok (.bipush 8, 2) := by decide +kernel
theorem dX1_findCandidates_10 : decode cX1_findCandidates 10 = .ok (.invokestatic 72, 3) := by decide +kernel
theorem dX1_findCandidates_13 : decode cX1_findCandidates 13 = .ok (.istore_n 2, 1) := by decide +kernel
theorem dX1_findCandidates_14 : decode cX1_findCandidates 14 = .ok (.iconst 0, 1) := by decide +kernel
theorem dX1_findCandidates_15 : decode cX1_findCandidates 15 = .ok (.istore_n 3, 1) := by decide +kernel
theorem dX1_findCandidates_16 : decode cX1_findCandidates 16 = .ok (.iconst 0, 1) := by decide +kernel
theorem dX1_findCandidates_17 : decode cX1_findCandidates 17 = .ok (.istore 4, 2) := by decide +kernel
theorem dX1_findCandidates_19 : decode cX1_findCandidates 19 = .ok (.iload 4, 2) := by decide +kernel
theorem dX1_findCandidates_21 : decode cX1_findCandidates 21 = .ok (.iload_n 2, 1) := by decide +kernel
theorem dX1_findCandidates_22 : decode cX1_findCandidates 22 = .ok (.if_icmp .ge 50, 3) := by decide +kernel
theorem dX1_findCandidates_25 : decode cX1_findCandidates 25 = .ok (.aload_n 0, 1) := by decide +kernel
theorem dX1_findCandidates_26 : decode cX1_findCandidates 26 = .ok (.getfield 9, 3) := by decide +kernel
theorem dX1_findCandidates_29 : decode cX1_findCandidates 29 = .ok (.iload_n 1, 1) := by decide +kernel
theorem dX1_findCandidates_30 : decode cX1_findCandidates 30 = .ok (.iload 4, 2) := by decide +kernel
theorem dX1_findCandidates_32 : decode cX1_findCandidates 32 = .ok (.invokevirtual 75, 3) := by decide +kernel
theorem dX1_findCandidates_35 : decode cX1_findCandidates 35 = .ok (.istore 5, 2) := by decide +kernel
theorem dX1_findCandidates_37 : decode cX1_findCandidates 37 = .ok (.aload_n 0, 1) := by decide +kernel
theorem dX1_findCandidates_38 : decode cX1_findCandidates 38 = .ok (.getfield 9, 3) := by decide +kernel
theorem dX1_findCandidates_41 : decode cX1_findCandidates 41 = .ok (.iload 5, 2) := by decide +kernel
theorem dX1_findCandidates_43 : decode cX1_findCandidates 43 = .ok (.invokevirtual 78, 3) := by decide +kernel
theorem dX1_findCandidates_46 : decode cX1_findCandidates 46 = .ok (.ifCond .eq 20, 3) := by decide +kernel
theorem dX1_findCandidates_49 : decode cX1_findCandidates 49 = .ok (.iload_n 3, 1) := by decide +kernel
theorem dX1_findCandidates_50 : decode cX1_findCandidates 50 = .ok (.bipush 8, 2) := by decide +kernel
theorem dX1_findCandidates_52 : decode cX1_findCandidates 52 = .ok (.if_icmp .ge 14, 3) := by decide +kernel
theorem dX1_findCandidates_55 : decode cX1_findCandidates 55 = .ok (.aload_n 0, 1) := by decide +kernel
theorem dX1_findCandidates_56 : decode cX1_findCandidates 56 = .ok (.getfield 24, 3) := by decide +kernel
theorem dX1_findCandidates_59 : decode cX1_findCandidates 59 = .ok (.iload_n 3, 1) := by decide +kernel
theorem dX1_findCandidates_60 : decode cX1_findCandidates 60 = .ok (.iload 5, 2) := by decide +kernel
theorem dX1_findCandidates_62 : decode cX1_findCandidates 62 = .ok (.iastore, 1) := by decide +kernel
theorem dX1_findCandidates_63 : decode cX1_findCandidates 63 = .ok (.iinc 3 1, 3) := by decide +kernel
theorem dX1_findCandidates_66 : decode cX1_findCandidates 66 = .ok (.iinc 4 1, 3) := by decide +kernel
theorem dX1_findCandidates_69 : decode cX1_findCandidates 69 = .ok (.goto (-50), 3) := by decide +kernel
theorem dX1_findCandidates_72 : decode cX1_findCandidates 72 = .ok (.iload_n 3, 1) := by decide +kernel
theorem dX1_findCandidates_73 : decode cX1_findCandidates 73 = .ok (.ireturn, 1) := by decide +kernel
theorem dX1_candidatesAlone_0 : decode cX1_candidatesAlone 0 = .ok (.iload_n 1, 1) := by decide +kernel
theorem dX1_candidatesAlone_1 : decode cX1_candidatesAlone 1 = .ok (.istore_n 3, 1) := by decide +kernel
theorem dX1_candidatesAlone_2 : decode cX1_candidatesAlone 2 = .ok (.iconst 0, 1) := by decide +kernel
theorem dX1_candidatesAlone_3 : decode cX1_candidatesAlone 3 = .ok (.istore 4, 2) := by decide +kernel
theorem dX1_candidatesAlone_5 : decode cX1_candidatesAlone 5 = .ok (.iconst 0, 1) := by decide +kernel
theorem dX1_candidatesAlone_6 : decode cX1_candidatesAlone 6 = .ok (.istore 5, 2) := by decide +kernel
theorem dX1_candidatesAlone_8 : decode cX1_candidatesAlone 8 = .ok (.iload 5, 2) := by decide +kernel
theorem dX1_candidatesAlone_10 : decode cX1_candidatesAlone 10 = .ok (.iload_n 2, 1) := by decide +kernel
theorem dX1_candidatesAlone_11 : decode cX1_candidatesAlone 11 = .ok (.if_icmp .ge 50, 3) := by decide +kernel
theorem dX1_candidatesAlone_14 : decode cX1_candidatesAlone 14 = .ok (.iload 5, 2) := by decide +kernel
theorem dX1_candidatesAlone_16 : decode cX1_candidatesAlone 16 = .ok (.bipush 8, 2) := by decide +kernel
theorem dX1_candidatesAlone_18 : decode cX1_candidatesAlone 18 = .ok (.if_icmp .ge 43, 3) := by decide +kernel
theorem dX1_candidatesAlone_21 : decode cX1_candidatesAlone 21 = .ok (.iconst 1, 1) := by decide +kernel
theorem dX1_candidatesAlone_22 : decode cX1_candidatesAlone 22 = .ok (.aload_n 0, 1) := by decide +kernel
theorem dX1_candidatesAlone_23 : decode cX1_candidatesAlone 23 = .ok (.getfield 24, 3) := by decide +kernel
theorem dX1_candidatesAlone_26 : decode cX1_candidatesAlone 26 = .ok (.iload 5, 2) := by decide +kernel
theorem dX1_candidatesAlone_28 : decode cX1_candidatesAlone 28 = .ok (.iaload, 1) := by decide +kernel
theorem dX1_candidatesAlone_29 : decode cX1_candidatesAlone 29 = .ok (.ishl, 1) := by decide +kernel
theorem dX1_candidatesAlone_30 : decode cX1_candidatesAlone 30 = .ok (.istore 6, 2) := by decide +kernel
theorem dX1_candidatesAlone_32 : decode cX1_candidatesAlone 32 = .ok (.iload_n 3, 1) := by decide +kernel
theorem dX1_candidatesAlone_33 : decode cX1_candidatesAlone 33 = .ok (.iload 6, 2) := by decide +kernel
theorem dX1_candidatesAlone_35 : decode cX1_candidatesAlone 35 = .ok (.iand, 1) := by decide +kernel
theorem dX1_candidatesAlone_36 : decode cX1_candidatesAlone 36 = .ok (.ifCond .eq 19, 3) := by decide +kernel
theorem dX1_candidatesAlone_39 : decode cX1_candidatesAlone 39 = .ok (.iload 4, 2) := by decide +kernel
theorem dX1_candidatesAlone_41 : decode cX1_candidatesAlone 41 = .ok (.iconst 1, 1) := by decide +kernel
theorem dX1_candidatesAlone_42 : decode cX1_candidatesAlone 42 = .ok (.iload 5, 2) := by decide +kernel
theorem dX1_candidatesAlone_44 : decode cX1_candidatesAlone 44 = .ok (.ishl, 1) := by decide +kernel
theorem dX1_candidatesAlone_45 : decode cX1_candidatesAlone 45 = .ok (.ior, 1) := by decide +kernel
theorem dX1_candidatesAlone_46 : decode cX1_candidatesAlone 46 = .ok (.istore 4, 2) := by decide +kernel
theorem dX1_candidatesAlone_48 : decode cX1_candidatesAlone 48 = .ok (.iload_n 3, 1) := by decide +kernel
theorem dX1_candidatesAlone_49 : decode cX1_candidatesAlone 49 = .ok (.iload 6, 2) := by decide +kernel
theorem dX1_candidatesAlone_51 : decode cX1_candidatesAlone 51 = .ok (.iconst (-1), 1) := by decide +kernel
theorem dX1_candidatesAlone_52 : decode cX1_candidatesAlone 52 = .ok (.ixor, 1) := by decide +kernel
theorem dX1_candidatesAlone_53 : decode cX1_candidatesAlone 53 = .ok (.iand, 1) := by decide +kernel
theorem dX1_candidatesAlone_54 : decode cX1_candidatesAlone 54 = .ok (.istore_n 3, 1) := by decide +kernel
theorem dX1_candidatesAlone_55 : decode cX1_candidatesAlone 55 = .ok (.iinc 5 1, 3) := by decide +kernel
theorem dX1_candidatesAlone_58 : decode cX1_candidatesAlone 58 = .ok (.goto (-50), 3) := by decide +kernel
theorem dX1_candidatesAlone_61 : decode cX1_candidatesAlone 61 = .ok (.iload_n 3, 1) := by decide +kernel
theorem dX1_candidatesAlone_62 : decode cX1_candidatesAlone 62 = .ok (.ifCond .ne 8, 3) := by decide +kernel
theorem dX1_candidatesAlone_65 : decode cX1_candidatesAlone 65 = .ok (.iload 4, 2) := by decide +kernel
theorem dX1_candidatesAlone_67 : decode cX1_candidatesAlone 67 = .ok (.goto 4, 3) := by decide +kernel
theorem dX1_candidatesAlone_70 : decode cX1_candidatesAlone 70 = .ok (.iconst (-1), 1) := by decide +kernel
theorem dX1_candidatesAlone_71 : decode cX1_candidatesAlone 71 = .ok (.ireturn, 1) := by decide +kernel
theorem dX1_addSubsets_0 : decode cX1_addSubsets 0 = .ok (.iconst 0, 1) := by decide +kernel
theorem dX1_addSubsets_1 : decode cX1_addSubsets 1 = .ok (.istore_n 2, 1) := by decide +kernel
theorem dX1_addSubsets_2 : decode cX1_addSubsets 2 = .ok (.iload_n 2, 1) := by decide +kernel
theorem dX1_addSubsets_3 : decode cX1_addSubsets 3 = .ok (.iload_n 1, 1) := by decide +kernel
theorem dX1_addSubsets_4 : decode cX1_addSubsets 4 = .ok (.if_icmp .ge 53, 3) := by decide +kernel
theorem dX1_addSubsets_7 : decode cX1_addSubsets 7 = .ok (.iconst 0, 1) := by decide +kernel
theorem dX1_addSubsets_8 : decode cX1_addSubsets 8 = .ok (.istore_n 3, 1) := by decide +kernel
theorem dX1_addSubsets_9 : decode cX1_addSubsets 9 = .ok (.iload_n 3, 1) := by decide +kernel
theorem dX1_addSubsets_10 : decode cX1_addSubsets 10 = .ok (.sipush 256, 3) := by decide +kernel
theorem dX1_addSubsets_13 : decode cX1_addSubsets 13 = .ok (.if_icmp .ge 38, 3) := by decide +kernel
theorem dX1_addSubsets_16 : decode cX1_addSubsets 16 = .ok (.iload_n 3, 1) := by decide +kernel
theorem dX1_addSubsets_17 : decode cX1_addSubsets 17 = .ok (.iconst 1, 1) := by decide +kernel
theorem dX1_addSubsets_18 : decode cX1_addSubsets 18 = .ok (.iload_n 2, 1) := by decide +kernel
theorem dX1_addSubsets_19 : decode cX1_addSubsets 19 = .ok (.ishl, 1) := by decide +kernel
theorem dX1_addSubsets_20 : decode cX1_addSubsets 20 = .ok (.iand, 1) := by decide +kernel
theorem dX1_addSubsets_21 : decode cX1_addSubsets 21 = .ok (.ifCond .eq 24, 3) := by decide +kernel
theorem dX1_addSubsets_24 : decode cX1_addSubsets 24 = .ok (.aload_n 0, 1) := by decide +kernel
theorem dX1_addSubsets_25 : decode cX1_addSubsets 25 = .ok (.getfield 28, 3) := by decide +kernel
theorem dX1_addSubsets_28 : decode cX1_addSubsets 28 = .ok (.iload_n 3, 1) := by decide +kernel
theorem dX1_addSubsets_29 : decode cX1_addSubsets 29 = .ok (.dup2, 1) := by decide +kernel
theorem dX1_addSubsets_30 : decode cX1_addSubsets 30 = .ok (.laload, 1) := by decide +kernel
theorem dX1_addSubsets_31 : decode cX1_addSubsets 31 = .ok (.aload_n 0, 1) := by decide +kernel
theorem dX1_addSubsets_32 : decode cX1_addSubsets 32 = .ok (.getfield 28, 3) := by decide +kernel
theorem dX1_addSubsets_35 : decode cX1_addSubsets 35 = .ok (.iload_n 3, 1) := by decide +kernel
theorem dX1_addSubsets_36 : decode cX1_addSubsets 36 = .ok (.iconst 1, 1) := by decide +kernel
theorem dX1_addSubsets_37 : decode cX1_addSubsets 37 = .ok (.iload_n 2, 1) := by decide +kernel
theorem dX1_addSubsets_38 : decode cX1_addSubsets 38 = .ok (.ishl, 1) := by decide +kernel
theorem dX1_addSubsets_39 : decode cX1_addSubsets 39 = .ok (.iconst (-1), 1) := by decide +kernel
theorem dX1_addSubsets_40 : decode cX1_addSubsets 40 = .ok (.ixor, 1) := by decide +kernel
theorem dX1_addSubsets_41 : decode cX1_addSubsets 41 = .ok (.iand, 1) := by decide +kernel
theorem dX1_addSubsets_42 : decode cX1_addSubsets 42 = .ok (.laload, 1) := by decide +kernel
theorem dX1_addSubsets_43 : decode cX1_addSubsets 43 = .ok (.ladd, 1) := by decide +kernel
theorem dX1_addSubsets_44 : decode cX1_addSubsets 44 = .ok (.lastore, 1) := by decide +kernel
theorem dX1_addSubsets_45 : decode cX1_addSubsets 45 = .ok (.iinc 3 1, 3) := by decide +kernel
theorem dX1_addSubsets_48 : decode cX1_addSubsets 48 = .ok (.goto (-39), 3) := by decide +kernel
theorem dX1_addSubsets_51 : decode cX1_addSubsets 51 = .ok (.iinc 2 1, 3) := by decide +kernel
theorem dX1_addSubsets_54 : decode cX1_addSubsets 54 = .ok (.goto (-52), 3) := by decide +kernel
theorem dX1_addSubsets_57 : decode cX1_addSubsets 57 = .ok (.return_, 1) := by decide +kernel
