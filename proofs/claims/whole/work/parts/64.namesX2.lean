theorem dX2_init_0 : decode cX2_init 0 = .ok (.aload_n 0, 1) := by decide +kernel
theorem dX2_init_1 : decode cX2_init 1 = .ok (.invokespecial 3, 3) := by decide +kernel
theorem dX2_init_4 : decode cX2_init 4 = .ok (.aload_n 0, 1) := by decide +kernel
theorem dX2_init_5 : decode cX2_init 5 = .ok (.aload_n 1, 1) := by decide +kernel
theorem dX2_init_6 : decode cX2_init 6 = .ok (.putfield 9, 3) := by decide +kernel
theorem dX2_init_9 : decode cX2_init 9 = .ok (.aload_n 0, 1) := by decide +kernel
theorem dX2_init_10 : decode cX2_init 10 = .ok (.bipush 96, 2) := by decide +kernel
theorem dX2_init_12 : decode cX2_init 12 = .ok (.newarray .int, 2) := by decide +kernel
theorem dX2_init_14 : decode cX2_init 14 = .ok (.putfield 15, 3) := by decide +kernel
theorem dX2_init_17 : decode cX2_init 17 = .ok (.return_, 1) := by decide +kernel
set_option maxRecDepth 20000 in
theorem ggX2_look_X4_blockIn : GoodIn wsX2_look wsX4_blockIn := goodIn_r _ [7, 8, 11, 12, 13, 14, 15, 16, 17, 18, 19, 20, 21] (by decide +kernel) (by decide +kernel)
set_option maxRecDepth 20000 in
theorem gX2_look_X4_blockIn : GoodIn wsX2_look (wsV RX2 19 RX4 yX4_blockIn wsX4_blockIn) := goodIn_app (goodIn_of _ (by decide +kernel)) ggX2_look_X4_blockIn
theorem dX2_look_0 : decode cX2_look 0 = .ok (.iconst 0, 1) := by decide +kernel
theorem dX2_look_1 : decode cX2_look 1 = .ok (.istore_n 1, 1) := by decide +kernel
theorem dX2_look_2 : decode cX2_look 2 = .ok (.iload_n 1, 1) := by decide +kernel
theorem dX2_look_3 : decode cX2_look 3 = .ok (.bipush 96, 2) := by decide +kernel
theorem dX2_look_5 : decode cX2_look 5 = .ok (.if_icmp .ge 16, 3) := by decide +kernel
theorem dX2_look_8 : decode cX2_look 8 = .ok (.aload_n 0, 1) := by decide +kernel
theorem dX2_look_9 : decode cX2_look 9 = .ok (.getfield 15, 3) := by decide +kernel
theorem dX2_look_12 : decode cX2_look 12 = .ok (.iload_n 1, 1) := by decide +kernel
theorem dX2_look_13 : decode cX2_look 13 = .ok (.iconst 0, 1) := by decide +kernel
theorem dX2_look_14 : decode cX2_look 14 = .ok (.iastore, 1) := by decide +kernel
theorem dX2_look_15 : decode cX2_look 15 = .ok (.iinc 1 1, 3) := by decide +kernel
theorem dX2_look_18 : decode cX2_look 18 = .ok (.goto (-16), 3) := by decide +kernel
theorem dX2_look_21 : decode cX2_look 21 = .ok (.iconst 0, 1) := by decide +kernel
theorem dX2_look_22 : decode cX2_look 22 = .ok (.istore_n 1, 1) := by decide +kernel
theorem dX2_look_23 : decode cX2_look 23 = .ok (.iload_n 1, 1) := by decide +kernel
theorem dX2_look_24 : decode cX2_look 24 = .ok (.bipush 20, 2) := by decide +kernel
theorem dX2_look_26 : decode cX2_look 26 = .ok (.if_icmp .ge 55, 3) := by decide +kernel
theorem dX2_look_29 : decode cX2_look 29 = .ok (.iconst 0, 1) := by decide +kernel
theorem dX2_look_30 : decode cX2_look 30 = .ok (.istore_n 2, 1) := by decide +kernel
theorem dX2_look_31 : decode cX2_look 31 = .ok (.iload_n 2, 1) := by decide +kernel
theorem dX2_look_32 : decode cX2_look 32 = .ok (.bipush 12, 2) := by decide +kernel
theorem dX2_look_34 : decode cX2_look 34 = .ok (.if_icmp .ge 41, 3) := by decide +kernel
theorem dX2_look_37 : decode cX2_look 37 = .ok (.aload_n 0, 1) := by decide +kernel
theorem dX2_look_38 : decode cX2_look 38 = .ok (.getfield 9, 3) := by decide +kernel
theorem dX2_look_41 : decode cX2_look 41 = .ok (.iload_n 1, 1) := by decide +kernel
theorem dX2_look_42 : decode cX2_look 42 = .ok (.iload_n 2, 1) := by decide +kernel
theorem dX2_look_43 : decode cX2_look 43 = .ok (.invokevirtual 19, 3) := by decide +kernel
theorem dX2_look_46 : decode cX2_look 46 = .ok (.istore_n 3, 1) := by decide +kernel
theorem dX2_look_47 : decode cX2_look 47 = .ok (.iload_n 3, 1) := by decide +kernel
theorem dX2_look_48 : decode cX2_look 48 = .ok (.ifCond .lt 21, 3) := by decide +kernel
theorem dX2_look_51 : decode cX2_look 51 = .ok (.iload_n 3, 1) := by decide +kernel
theorem dX2_look_52 : decode cX2_look 52 = .ok (.bipush 96, 2) := by decide +kernel
theorem dX2_look_54 : decode cX2_look 54 = .ok (.if_icmp .ge 15, 3) := by decide +kernel
theorem dX2_look_57 : decode cX2_look 57 = .ok (.aload_n 0, 1) := by decide +kernel
theorem dX2_look_58 : decode cX2_look 58 = .ok (.getfield 15, 3) := by decide +kernel
theorem dX2_look_61 : decode cX2_look 61 = .ok (.iload_n 3, 1) := by decide +kernel
theorem dX2_look_62 : decode cX2_look 62 = .ok (.dup2, 1) := by decide +kernel
theorem dX2_look_63 : decode cX2_look 63 = .ok (.iaload, 1) := by decide +kernel
theorem dX2_look_64 : decode cX2_look 64 = .ok (.iconst 1, 1) := by decide +kernel
theorem dX2_look_65 : decode cX2_look 65 = .ok (.iload_n 1, 1) := by decide +kernel
theorem dX2_look_66 : decode cX2_look 66 = .ok (.ishl, 1) := by decide +kernel
theorem dX2_look_67 : decode cX2_look 67 = .ok (.ior, 1) := by decide +kernel
theorem dX2_look_68 : decode cX2_look 68 = .ok (.iastore, 1) := by decide +kernel
theorem dX2_look_69 : decode cX2_look 69 = .ok (.iinc 2 1, 3) := by decide +kernel
theorem dX2_look_72 : decode cX2_look 72 = .ok (.goto (-41), 3) := by decide +kernel
theorem dX2_look_75 : decode cX2_look 75 = .ok (.iinc 1 1, 3) := by decide +kernel
theorem dX2_look_78 : decode cX2_look 78 = .ok (.goto (-55), 3) := by decide +kernel
theorem dX2_look_81 : decode cX2_look 81 = .ok (.return_, 1) := by decide +kernel
theorem dX2_setOf_0 : decode cX2_setOf 0 = .ok (.iload_n 1, 1) := by decide +kernel
theorem dX2_setOf_1 : decode cX2_setOf 1 = .ok (.ifCond .lt 18, 3) := by decide +kernel
theorem dX2_setOf_4 : decode cX2_setOf 4 = .ok (.iload_n 1, 1) := by decide +kernel
theorem dX2_setOf_5 : decode cX2_setOf 5 = .ok (.bipush 96, 2) := by decide +kernel
theorem dX2_setOf_7 : decode cX2_setOf 7 = .ok (.if_icmp .ge 12, 3) := by decide +kernel
theorem dX2_setOf_10 : decode cX2_setOf 10 = .ok (.aload_n 0, 1) := by decide +kernel
theorem dX2_setOf_11 : decode cX2_setOf 11 = .ok (.getfield 15, 3) := by decide +kernel
theorem dX2_setOf_14 : decode cX2_setOf 14 = .ok (.iload_n 1, 1) := by decide +kernel
theorem dX2_setOf_15 : decode cX2_setOf 15 = .ok (.iaload, 1) := by decide +kernel
theorem dX2_setOf_16 : decode cX2_setOf 16 = .ok (.goto 4, 3) := by decide +kernel
theorem dX2_setOf_19 : decode cX2_setOf 19 = .ok (.iconst 0, 1) := by decide +kernel
theorem dX2_setOf_20 : decode cX2_setOf 20 = .ok (.ireturn, 1) := by decide +kernel
