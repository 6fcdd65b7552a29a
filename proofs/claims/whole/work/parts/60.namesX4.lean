theorem dX4_init_0 : decode cX4_init 0 = .ok (.aload_n 0, 1) := by decide +kernel
theorem dX4_init_1 : decode cX4_init 1 = .ok (.invokespecial 3, 3) := by decide +kernel
theorem dX4_init_4 : decode cX4_init 4 = .ok (.aload_n 0, 1) := by decide +kernel
theorem dX4_init_5 : decode cX4_init 5 = .ok (.bipush 20, 2) := by decide +kernel
theorem dX4_init_7 : decode cX4_init 7 = .ok (.newarray .int, 2) := by decide +kernel
theorem dX4_init_9 : decode cX4_init 9 = .ok (.putfield 9, 3) := by decide +kernel
theorem dX4_init_12 : decode cX4_init 12 = .ok (.aload_n 0, 1) := by decide +kernel
theorem dX4_init_13 : decode cX4_init 13 = .ok (.bipush 20, 2) := by decide +kernel
theorem dX4_init_15 : decode cX4_init 15 = .ok (.newarray .int, 2) := by decide +kernel
theorem dX4_init_17 : decode cX4_init 17 = .ok (.putfield 15, 3) := by decide +kernel
theorem dX4_init_20 : decode cX4_init 20 = .ok (.aload_n 0, 1) := by decide +kernel
theorem dX4_init_21 : decode cX4_init 21 = .ok (.bipush 20, 2) := by decide +kernel
theorem dX4_init_23 : decode cX4_init 23 = .ok (.newarray .int, 2) := by decide +kernel
theorem dX4_init_25 : decode cX4_init 25 = .ok (.putfield 18, 3) := by decide +kernel
theorem dX4_init_28 : decode cX4_init 28 = .ok (.aload_n 0, 1) := by decide +kernel
theorem dX4_init_29 : decode cX4_init 29 = .ok (.bipush 20, 2) := by decide +kernel
theorem dX4_init_31 : decode cX4_init 31 = .ok (.newarray .int, 2) := by decide +kernel
theorem dX4_init_33 : decode cX4_init 33 = .ok (.putfield 21, 3) := by decide +kernel
theorem dX4_init_36 : decode cX4_init 36 = .ok (.aload_n 0, 1) := by decide +kernel
theorem dX4_init_37 : decode cX4_init 37 = .ok (.bipush 20, 2) := by decide +kernel
theorem dX4_init_39 : decode cX4_init 39 = .ok (.newarray .int, 2) := by decide +kernel
theorem dX4_init_41 : decode cX4_init 41 = .ok (.putfield 24, 3) := by decide +kernel
theorem dX4_init_44 : decode cX4_init 44 = .ok (.aload_n 0, 1) := by decide +kernel
theorem dX4_init_45 : decode cX4_init 45 = .ok (.bipush 20, 2) := by decide +kernel
theorem dX4_init_47 : decode cX4_init 47 = .ok (.newarray .int, 2) := by decide +kernel
theorem dX4_init_49 : decode cX4_init 49 = .ok (.putfield 27, 3) := by decide +kernel
theorem dX4_init_52 : decode cX4_init 52 = .ok (.aload_n 0, 1) := by decide +kernel
theorem dX4_init_53 : decode cX4_init 53 = .ok (.sipush 240, 3) := by decide +kernel
theorem dX4_init_56 : decode cX4_init 56 = .ok (.newarray .int, 2) := by decide +kernel
theorem dX4_init_58 : decode cX4_init 58 = .ok (.putfield 30, 3) := by decide +kernel
theorem dX4_init_61 : decode cX4_init 61 = .ok (.aload_n 0, 1) := by decide +kernel
theorem dX4_init_62 : decode cX4_init 62 = .ok (.bipush 96, 2) := by decide +kernel
theorem dX4_init_64 : decode cX4_init 64 = .ok (.newarray .int, 2) := by decide +kernel
theorem dX4_init_66 : decode cX4_init 66 = .ok (.putfield 33, 3) := by decide +kernel
theorem dX4_init_69 : decode cX4_init 69 = .ok (.aload_n 0, 1) := by decide +kernel
theorem dX4_init_70 : decode cX4_init 70 = .ok (.bipush 96, 2) := by decide +kernel
theorem dX4_init_72 : decode cX4_init 72 = .ok (.newarray .int, 2) := by decide +kernel
theorem dX4_init_74 : decode cX4_init 74 = .ok (.putfield 36, 3) := by decide +kernel
theorem dX4_init_77 : decode cX4_init 77 = .ok (.aload_n 0, 1) := by decide +kernel
theorem dX4_init_78 : decode cX4_init 78 = .ok (.iconst 1, 1) := by decide +kernel
theorem dX4_init_79 : decode cX4_init 79 = .ok (.putfield 39, 3) := by decide +kernel
theorem dX4_init_82 : decode cX4_init 82 = .ok (.aload_n 0, 1) := by decide +kernel
theorem dX4_init_83 : decode cX4_init 83 = .ok (.iconst 0, 1) := by decide +kernel
theorem dX4_init_84 : decode cX4_init 84 = .ok (.putfield 43, 3) := by decide +kernel
theorem dX4_init_87 : decode cX4_init 87 = .ok (.iconst 0, 1) := by decide +kernel
theorem dX4_init_88 : decode cX4_init 88 = .ok (.istore_n 1, 1) := by decide +kernel
theorem dX4_init_89 : decode cX4_init 89 = .ok (.iload_n 1, 1) := by decide +kernel
theorem dX4_init_90 : decode cX4_init 90 = .ok (.bipush 20, 2) := by decide +kernel
theorem dX4_init_92 : decode cX4_init 92 = .ok (.if_icmp .ge 37, 3) := by decide +kernel
theorem dX4_init_95 : decode cX4_init 95 = .ok (.aload_n 0, 1) := by decide +kernel
theorem dX4_init_96 : decode cX4_init 96 = .ok (.getfield 9, 3) := by decide +kernel
theorem dX4_init_99 : decode cX4_init 99 = .ok (.iload_n 1, 1) := by decide +kernel
theorem dX4_init_100 : decode cX4_init 100 = .ok (.iconst (-1), 1) := by decide +kernel
theorem dX4_init_101 : decode cX4_init 101 = .ok (.iastore, 1) := by decide +kernel
theorem dX4_init_102 : decode cX4_init 102 = .ok (.aload_n 0, 1) := by decide +kernel
theorem dX4_init_103 : decode cX4_init 103 = .ok (.getfield 18, 3) := by decide +kernel
theorem dX4_init_106 : decode cX4_init 106 = .ok (.iload_n 1, 1) := by decide +kernel
theorem dX4_init_107 : decode cX4_init 107 = .ok (.iconst (-1), 1) := by decide +kernel
theorem dX4_init_108 : decode cX4_init 108 = .ok (.iastore, 1) := by decide +kernel
theorem dX4_init_109 : decode cX4_init 109 = .ok (.aload_n 0, 1) := by decide +kernel
theorem dX4_init_110 : decode cX4_init 110 = .ok (.getfield 21, 3) := by decide +kernel
theorem dX4_init_113 : decode cX4_init 113 = .ok (.iload_n 1, 1) := by decide +kernel
theorem dX4_init_114 : decode cX4_init 114 = .ok (.iconst (-1), 1) := by decide +kernel
theorem dX4_init_115 : decode cX4_init 115 = .ok (.iastore, 1) := by decide +kernel
theorem dX4_init_116 : decode cX4_init 116 = .ok (.aload_n 0, 1) := by decide +kernel
theorem dX4_init_117 : decode cX4_init 117 = .ok (.getfield 27, 3) := by decide +kernel
theorem dX4_init_120 : decode cX4_init 120 = .ok (.iload_n 1, 1) := by decide +kernel
theorem dX4_init_121 : decode cX4_init 121 = .ok (.iconst (-1), 1) := by decide +kernel
theorem dX4_init_122 : decode cX4_init 122 = .ok (.iastore, 1) := by decide +kernel
theorem dX4_init_123 : decode cX4_init 123 = .ok (.iinc 1 1, 3) := by decide +kernel
theorem dX4_init_126 : decode cX4_init 126 = .ok (.goto (-37), 3) := by decide +kernel
theorem dX4_init_129 : decode cX4_init 129 = .ok (.iconst 0, 1) := by decide +kernel
theorem dX4_init_130 : decode cX4_init 130 = .ok (.istore_n 1, 1) := by decide +kernel
theorem dX4_init_131 : decode cX4_init 131 = .ok (.iload_n 1, 1) := by decide +kernel
theorem dX4_init_132 : decode cX4_init 132 = .ok (.sipush 240, 3) := by decide +kernel
theorem dX4_init_135 : decode cX4_init 135 = .ok (.if_icmp .ge 16, 3) := by decide +kernel
theorem dX4_init_138 : decode cX4_init 138 = .ok (.aload_n 0, 1) := by decide +kernel
theorem dX4_init_139 : decode cX4_init 139 = .ok (.getfield 30, 3) := by decide +kernel
theorem dX4_init_142 : decode cX4_init 142 = .ok (.iload_n 1, 1) := by decide +kernel
theorem dX4_init_143 : decode cX4_init 143 = .ok (.iconst (-1), 1) := by decide +kernel
theorem dX4_init_144 : decode cX4_init 144 = .ok (.iastore, 1) := by decide +kernel
theorem dX4_init_145 : decode cX4_init 145 = .ok (.iinc 1 1, 3) := by decide +kernel
theorem dX4_init_148 : decode cX4_init 148 = .ok (.goto (-17), 3) := by decide +kernel
theorem dX4_init_151 : decode cX4_init 151 = .ok (.return_, 1) := by decide +kernel
theorem dX4_copyFrom_0 : decode cX4_copyFrom 0 = .ok (.aload_n 1, 1) := by decide +kernel
theorem dX4_copyFrom_1 : decode cX4_copyFrom 1 = .ok (.getfield 9, 3) := by decide +kernel
theorem dX4_copyFrom_4 : decode cX4_copyFrom 4 = .ok (.iconst 0, 1) := by decide +kernel
theorem dX4_copyFrom_5 : decode cX4_copyFrom 5 = .ok (.aload_n 0, 1) := by decide +kernel
theorem dX4_copyFrom_6 : decode cX4_copyFrom 6 = .ok (.getfield 9, 3) := by decide +kernel
theorem dX4_copyFrom_9 : decode cX4_copyFrom 9 = .ok (.iconst 0, 1) := by decide +kernel
theorem dX4_copyFrom_10 : decode cX4_copyFrom 10 = .ok (.bipush 20, 2) := by decide +kernel
theorem dX4_copyFrom_12 : decode cX4_copyFrom 12 = .ok (.invokestatic 46, 3) := by decide +kernel
theorem dX4_copyFrom_15 : decode cX4_copyFrom 15 = .ok (.aload_n 1, 1) := by decide +kernel
theorem dX4_copyFrom_16 : decode cX4_copyFrom 16 = .ok (.getfield 15, 3) := by decide +kernel
theorem dX4_copyFrom_19 : decode cX4_copyFrom 19 = .ok (.iconst 0, 1) := by decide +kernel
theorem dX4_copyFrom_20 : decode cX4_copyFrom 20 = .ok (.aload_n 0, 1) := by decide +kernel
theorem dX4_copyFrom_21 : decode cX4_copyFrom 21 = .ok (.getfield 15, 3) := by decide +kernel
theorem dX4_copyFrom_24 : decode cX4_copyFrom 24 = .ok (.iconst 0, 1) := by decide +kernel
theorem dX4_copyFrom_25 : decode cX4_copyFrom 25 = .ok (.bipush 20, 2) := by decide +kernel
theorem dX4_copyFrom_27 : decode cX4_copyFrom 27 = .ok (.invokestatic 46, 3) := by decide +kernel
theorem dX4_copyFrom_30 : decode cX4_copyFrom 30 = .ok (.aload_n 1, 1) := by decide +kernel
theorem dX4_copyFrom_31 : decode cX4_copyFrom 31 = .ok (.getfield 18, 3) := by decide +kernel
theorem dX4_copyFrom_34 : decode cX4_copyFrom 34 = .ok (.iconst 0, 1) := by decide +kernel
theorem dX4_copyFrom_35 : decode cX4_copyFrom 35 = .ok (.aload_n 0, 1) := by decide +kernel
theorem dX4_copyFrom_36 : decode cX4_copyFrom 36 = .ok (.getfield 18, 3) := by decide +kernel
theorem dX4_copyFrom_39 : decode cX4_copyFrom 39 = .ok (.iconst 0, 1) := by decide +kernel
theorem dX4_copyFrom_40 : decode cX4_copyFrom 40 = .ok (.bipush 20, 2) := by decide +kernel
theorem dX4_copyFrom_42 : decode cX4_copyFrom 42 = .ok (.invokestatic 46, 3) := by decide +kernel
theorem dX4_copyFrom_45 : decode cX4_copyFrom 45 = .ok (.aload_n 1, 1) := by decide +kernel
theorem dX4_copyFrom_46 : decode cX4_copyFrom 46 = .ok (.getfield 21, 3) := by decide +kernel
theorem dX4_copyFrom_49 : decode cX4_copyFrom 49 = .ok (.iconst 0, 1) := by decide +kernel
theorem dX4_copyFrom_50 : decode cX4_copyFrom 50 = .ok (.aload_n 0, 1) := by decide +kernel
theorem dX4_copyFrom_51 : decode cX4_copyFrom 51 = .ok (.getfield 21, 3) := by decide +kernel
theorem dX4_copyFrom_54 : decode cX4_copyFrom 54 = .ok (.iconst 0, 1) := by decide +kernel
theorem dX4_copyFrom_55 : decode cX4_copyFrom 55 = .ok (.bipush 20, 2) := by decide +kernel
theorem dX4_copyFrom_57 : decode cX4_copyFrom 57 = .ok (.invokestatic 46, 3) := by decide +kernel
theorem dX4_copyFrom_60 : decode cX4_copyFrom 60 = .ok (.aload_n 1, 1) := by decide +kernel
theorem dX4_copyFrom_61 : decode cX4_copyFrom 61 = .ok (.getfield 24, 3) := by decide +kernel
theorem dX4_copyFrom_64 : decode cX4_copyFrom 64 = .ok (.iconst 0, 1) := by decide +kernel
theorem dX4_copyFrom_65 : decode cX4_copyFrom 65 = .ok (.aload_n 0, 1) := by decide +kernel
theorem dX4_copyFrom_66 : decode cX4_copyFrom 66 = .ok (.getfield 24, 3) := by decide +kernel
theorem dX4_copyFrom_69 : decode cX4_copyFrom 69 = .ok (.iconst 0, 1) := by decide +kernel
theorem dX4_copyFrom_70 : decode cX4_copyFrom 70 = .ok (.bipush 20, 2) := by decide +kernel
theorem dX4_copyFrom_72 : decode cX4_copyFrom 72 = .ok (.invokestatic 46, 3) := by decide +kernel
theorem dX4_copyFrom_75 : decode cX4_copyFrom 75 = .ok (.aload_n 1, 1) := by decide +kernel
theorem dX4_copyFrom_76 : decode cX4_copyFrom 76 = .ok (.getfield 27, 3) := by decide +kernel
theorem dX4_copyFrom_79 : decode cX4_copyFrom 79 = .ok (.iconst 0, 1) := by decide +kernel
theorem dX4_copyFrom_80 : decode cX4_copyFrom 80 = .ok (.aload_n 0, 1) := by decide +kernel
theorem dX4_copyFrom_81 : decode cX4_copyFrom 81 = .ok (.getfield 27, 3) := by decide +kernel
theorem dX4_copyFrom_84 : decode cX4_copyFrom 84 = .ok (.iconst 0, 1) := by decide +kernel
theorem dX4_copyFrom_85 : decode cX4_copyFrom 85 = .ok (.bipush 20, 2) := by decide +kernel
theorem dX4_copyFrom_87 : decode cX4_copyFrom 87 = .ok (.invokestatic 46, 3) := by decide +kernel
theorem dX4_copyFrom_90 : decode cX4_copyFrom 90 = .ok (.aload_n 1, 1) := by decide +kernel
theorem dX4_copyFrom_91 : decode cX4_copyFrom 91 = .ok (.getfield 30, 3) := by decide +kernel
theorem dX4_copyFrom_94 : decode cX4_copyFrom 94 = .ok (.iconst 0, 1) := by decide +kernel
theorem dX4_copyFrom_95 : decode cX4_copyFrom 95 = .ok (.aload_n 0, 1) := by decide +kernel
theorem dX4_copyFrom_96 : decode cX4_copyFrom 96 = .ok (.getfield 30, 3) := by decide +kernel
theorem dX4_copyFrom_99 : decode cX4_copyFrom 99 = .ok (.iconst 0, 1) := by decide +kernel
theorem dX4_copyFrom_100 : decode cX4_copyFrom 100 = .ok (.sipush 240, 3) := by decide +kernel
theorem dX4_copyFrom_103 : decode cX4_copyFrom 103 = .ok (.invokestatic 46, 3) := by decide +kernel
theorem dX4_copyFrom_106 : decode cX4_copyFrom 106 = .ok (.aload_n 1, 1) := by decide +kernel
theorem dX4_copyFrom_107 : decode cX4_copyFrom 107 = .ok (.getfield 33, 3) := by decide +kernel
theorem dX4_copyFrom_110 : decode cX4_copyFrom 110 = .ok (.iconst 0, 1) := by decide +kernel
theorem dX4_copyFrom_111 : decode cX4_copyFrom 111 = .ok (.aload_n 0, 1) := by decide +kernel
theorem dX4_copyFrom_112 : decode cX4_copyFrom 112 = .ok (.getfield 33, 3) := by decide +kernel
theorem dX4_copyFrom_115 : decode cX4_copyFrom 115 = .ok (.iconst 0, 1) := by decide +kernel
theorem dX4_copyFrom_116 : decode cX4_copyFrom 116 = .ok (.bipush 96, 2) := by decide +kernel
theorem dX4_copyFrom_118 : decode cX4_copyFrom 118 = .ok (.invokestatic 46, 3) := by decide +kernel
theorem dX4_copyFrom_121 : decode cX4_copyFrom 121 = .ok (.aload_n 1, 1) := by decide +kernel
theorem dX4_copyFrom_122 : decode cX4_copyFrom 122 = .ok (.getfield 36, 3) := by decide +kernel
theorem dX4_copyFrom_125 : decode cX4_copyFrom 125 = .ok (.iconst 0, 1) := by decide +kernel
theorem dX4_copyFrom_126 : decode cX4_copyFrom 126 = .ok (.aload_n 0, 1) := by decide +kernel
theorem dX4_copyFrom_127 : decode cX4_copyFrom 127 = .ok (.getfield 36, 3) := by decide +kernel
theorem dX4_copyFrom_130 : decode cX4_copyFrom 130 = .ok (.iconst 0, 1) := by decide +kernel
theorem dX4_copyFrom_131 : decode cX4_copyFrom 131 = .ok (.bipush 96, 2) := by decide +kernel
theorem dX4_copyFrom_133 : decode cX4_copyFrom 133 = .ok (.invokestatic 46, 3) := by decide +kernel
theorem dX4_copyFrom_136 : decode cX4_copyFrom 136 = .ok (.aload_n 0, 1) := by decide +kernel
theorem dX4_copyFrom_137 : decode cX4_copyFrom 137 = .ok (.aload_n 1, 1) := by decide +kernel
theorem dX4_copyFrom_138 : decode cX4_copyFrom 138 = .ok (.getfield 39, 3) := by decide +kernel
theorem dX4_copyFrom_141 : decode cX4_copyFrom 141 = .ok (.putfield 39, 3) := by decide +kernel
theorem dX4_copyFrom_144 : decode cX4_copyFrom 144 = .ok (.aload_n 0, 1) := by decide +kernel
theorem dX4_copyFrom_145 : decode cX4_copyFrom 145 = .ok (.aload_n 1, 1) := by decide +kernel
theorem dX4_copyFrom_146 : decode cX4_copyFrom 146 = .ok (.getfield 43, 3) := by decide +kernel
theorem dX4_copyFrom_149 : decode cX4_copyFrom 149 = .ok (.putfield 43, 3) := by decide +kernel
theorem dX4_copyFrom_152 : decode cX4_copyFrom 152 = .ok (.return_, 1) := by decide +kernel
theorem dX4_kindOf_0 : decode cX4_kindOf 0 = .ok (.iload_n 1, 1) := by decide +kernel
theorem dX4_kindOf_1 : decode cX4_kindOf 1 = .ok (.ifCond .lt 18, 3) := by decide +kernel
theorem dX4_kindOf_4 : decode cX4_kindOf 4 = .ok (.iload_n 1, 1) := by decide +kernel
theorem dX4_kindOf_5 : decode cX4_kindOf 5 = .ok (.bipush 20, 2) := by decide +kernel
theorem dX4_kindOf_7 : decode cX4_kindOf 7 = .ok (.if_icmp .ge 12, 3) := by decide +kernel
theorem dX4_kindOf_10 : decode cX4_kindOf 10 = .ok (.aload_n 0, 1) := by decide +kernel
theorem dX4_kindOf_11 : decode cX4_kindOf 11 = .ok (.getfield 9, 3) := by decide +kernel
theorem dX4_kindOf_14 : decode cX4_kindOf 14 = .ok (.iload_n 1, 1) := by decide +kernel
theorem dX4_kindOf_15 : decode cX4_kindOf 15 = .ok (.iaload, 1) := by decide +kernel
theorem dX4_kindOf_16 : decode cX4_kindOf 16 = .ok (.goto 4, 3) := by decide +kernel
theorem dX4_kindOf_19 : decode cX4_kindOf 19 = .ok (.iconst (-1), 1) := by decide +kernel
theorem dX4_kindOf_20 : decode cX4_kindOf 20 = .ok (.ireturn, 1) := by decide +kernel
theorem dX4_madeOf_0 : decode cX4_madeOf 0 = .ok (.iload_n 1, 1) := by decide +kernel
theorem dX4_madeOf_1 : decode cX4_madeOf 1 = .ok (.ifCond .lt 18, 3) := by decide +kernel
theorem dX4_madeOf_4 : decode cX4_madeOf 4 = .ok (.iload_n 1, 1) := by decide +kernel
theorem dX4_madeOf_5 : decode cX4_madeOf 5 = .ok (.bipush 20, 2) := by decide +kernel
theorem dX4_madeOf_7 : decode cX4_madeOf 7 = .ok (.if_icmp .ge 12, 3) := by decide +kernel
theorem dX4_madeOf_10 : decode cX4_madeOf 10 = .ok (.aload_n 0, 1) := by decide +kernel
theorem dX4_madeOf_11 : decode cX4_madeOf 11 = .ok (.getfield 15, 3) := by decide +kernel
theorem dX4_madeOf_14 : decode cX4_madeOf 14 = .ok (.iload_n 1, 1) := by decide +kernel
theorem dX4_madeOf_15 : decode cX4_madeOf 15 = .ok (.iaload, 1) := by decide +kernel
theorem dX4_madeOf_16 : decode cX4_madeOf 16 = .ok (.goto 4, 3) := by decide +kernel
theorem dX4_madeOf_19 : decode cX4_madeOf 19 = .ok (.iconst 0, 1) := by decide +kernel
theorem dX4_madeOf_20 : decode cX4_madeOf 20 = .ok (.ireturn, 1) := by decide +kernel
theorem dX4_prevOf_0 : decode cX4_prevOf 0 = .ok (.iload_n 1, 1) := by decide +kernel
theorem dX4_prevOf_1 : decode cX4_prevOf 1 = .ok (.ifCond .lt 18, 3) := by decide +kernel
theorem dX4_prevOf_4 : decode cX4_prevOf 4 = .ok (.iload_n 1, 1) := by decide +kernel
theorem dX4_prevOf_5 : decode cX4_prevOf 5 = .ok (.bipush 20, 2) := by decide +kernel
theorem dX4_prevOf_7 : decode cX4_prevOf 7 = .ok (.if_icmp .ge 12, 3) := by decide +kernel
theorem dX4_prevOf_10 : decode cX4_prevOf 10 = .ok (.aload_n 0, 1) := by decide +kernel
theorem dX4_prevOf_11 : decode cX4_prevOf 11 = .ok (.getfield 18, 3) := by decide +kernel
theorem dX4_prevOf_14 : decode cX4_prevOf 14 = .ok (.iload_n 1, 1) := by decide +kernel
theorem dX4_prevOf_15 : decode cX4_prevOf 15 = .ok (.iaload, 1) := by decide +kernel
theorem dX4_prevOf_16 : decode cX4_prevOf 16 = .ok (.goto 4, 3) := by decide +kernel
theorem dX4_prevOf_19 : decode cX4_prevOf 19 = .ok (.iconst (-1), 1) := by decide +kernel
theorem dX4_prevOf_20 : decode cX4_prevOf 20 = .ok (.ireturn, 1) := by decide +kernel
theorem dX4_ownerOf_0 : decode cX4_ownerOf 0 = .ok (.iload_n 1, 1) := by decide +kernel
theorem dX4_ownerOf_1 : decode cX4_ownerOf 1 = .ok (.ifCond .lt 18, 3) := by decide +kernel
theorem dX4_ownerOf_4 : decode cX4_ownerOf 4 = .ok (.iload_n 1, 1) := by decide +kernel
theorem dX4_ownerOf_5 : decode cX4_ownerOf 5 = .ok (.bipush 20, 2) := by decide +kernel
theorem dX4_ownerOf_7 : decode cX4_ownerOf 7 = .ok (.if_icmp .ge 12, 3) := by decide +kernel
theorem dX4_ownerOf_10 : decode cX4_ownerOf 10 = .ok (.aload_n 0, 1) := by decide +kernel
theorem dX4_ownerOf_11 : decode cX4_ownerOf 11 = .ok (.getfield 21, 3) := by decide +kernel
theorem dX4_ownerOf_14 : decode cX4_ownerOf 14 = .ok (.iload_n 1, 1) := by decide +kernel
theorem dX4_ownerOf_15 : decode cX4_ownerOf 15 = .ok (.iaload, 1) := by decide +kernel
theorem dX4_ownerOf_16 : decode cX4_ownerOf 16 = .ok (.goto 4, 3) := by decide +kernel
theorem dX4_ownerOf_19 : decode cX4_ownerOf 19 = .ok (.iconst (-1), 1) := by decide +kernel
theorem dX4_ownerOf_20 : decode cX4_ownerOf 20 = .ok (.ireturn, 1) := by decide +kernel
theorem dX4_tagsOf_0 : decode cX4_tagsOf 0 = .ok (.iload_n 1, 1) := by decide +kernel
theorem dX4_tagsOf_1 : decode cX4_tagsOf 1 = .ok (.ifCond .lt 18, 3) := by decide +kernel
theorem dX4_tagsOf_4 : decode cX4_tagsOf 4 = .ok (.iload_n 1, 1) := by decide +kernel
theorem dX4_tagsOf_5 : decode cX4_tagsOf 5 = .ok (.bipush 20, 2) := by decide +kernel
theorem dX4_tagsOf_7 : decode cX4_tagsOf 7 = .ok (.if_icmp .ge 12, 3) := by decide +kernel
theorem dX4_tagsOf_10 : decode cX4_tagsOf 10 = .ok (.aload_n 0, 1) := by decide +kernel
theorem dX4_tagsOf_11 : decode cX4_tagsOf 11 = .ok (.getfield 24, 3) := by decide +kernel
theorem dX4_tagsOf_14 : decode cX4_tagsOf 14 = .ok (.iload_n 1, 1) := by decide +kernel
theorem dX4_tagsOf_15 : decode cX4_tagsOf 15 = .ok (.iaload, 1) := by decide +kernel
theorem dX4_tagsOf_16 : decode cX4_tagsOf 16 = .ok (.goto 4, 3) := by decide +kernel
theorem dX4_tagsOf_19 : decode cX4_tagsOf 19 = .ok (.iconst 0, 1) := by decide +kernel
theorem dX4_tagsOf_20 : decode cX4_tagsOf 20 = .ok (.ireturn, 1) := by decide +kernel
theorem dX4_quotaOf_0 : decode cX4_quotaOf 0 = .ok (.iload_n 1, 1) := by decide +kernel
theorem dX4_quotaOf_1 : decode cX4_quotaOf 1 = .ok (.ifCond .lt 18, 3) := by decide +kernel
theorem dX4_quotaOf_4 : decode cX4_quotaOf 4 = .ok (.iload_n 1, 1) := by decide +kernel
theorem dX4_quotaOf_5 : decode cX4_quotaOf 5 = .ok (.bipush 20, 2) := by decide +kernel
theorem dX4_quotaOf_7 : decode cX4_quotaOf 7 = .ok (.if_icmp .ge 12, 3) := by decide +kernel
theorem dX4_quotaOf_10 : decode cX4_quotaOf 10 = .ok (.aload_n 0, 1) := by decide +kernel
theorem dX4_quotaOf_11 : decode cX4_quotaOf 11 = .ok (.getfield 27, 3) := by decide +kernel
theorem dX4_quotaOf_14 : decode cX4_quotaOf 14 = .ok (.iload_n 1, 1) := by decide +kernel
theorem dX4_quotaOf_15 : decode cX4_quotaOf 15 = .ok (.iaload, 1) := by decide +kernel
theorem dX4_quotaOf_16 : decode cX4_quotaOf 16 = .ok (.goto 4, 3) := by decide +kernel
theorem dX4_quotaOf_19 : decode cX4_quotaOf 19 = .ok (.iconst (-1), 1) := by decide +kernel
theorem dX4_quotaOf_20 : decode cX4_quotaOf 20 = .ok (.ireturn, 1) := by decide +kernel
theorem dX4_blockIn_0 : decode cX4_blockIn 0 = .ok (.iload_n 1, 1) := by decide +kernel
theorem dX4_blockIn_1 : decode cX4_blockIn 1 = .ok (.ifCond .lt 33, 3) := by decide +kernel
theorem dX4_blockIn_4 : decode cX4_blockIn 4 = .ok (.iload_n 1, 1) := by decide +kernel
theorem dX4_blockIn_5 : decode cX4_blockIn 5 = .ok (.bipush 20, 2) := by decide +kernel
theorem dX4_blockIn_7 : decode cX4_blockIn 7 = .ok (.if_icmp .ge 27, 3) := by decide +kernel
theorem dX4_blockIn_10 : decode cX4_blockIn 10 = .ok (.iload_n 2, 1) := by decide +kernel
theorem dX4_blockIn_11 : decode cX4_blockIn 11 = .ok (.ifCond .lt 23, 3) := by decide +kernel
theorem dX4_blockIn_14 : decode cX4_blockIn 14 = .ok (.iload_n 2, 1) := by decide +kernel
theorem dX4_blockIn_15 : decode cX4_blockIn 15 = .ok (.bipush 12, 2) := by decide +kernel
theorem dX4_blockIn_17 : decode cX4_blockIn 17 = .ok (.if_icmp .ge 17, 3) := by decide +kernel
theorem dX4_blockIn_20 : decode cX4_blockIn 20 = .ok (.aload_n 0, 1) := by decide +kernel
theorem dX4_blockIn_21 : decode cX4_blockIn 21 = .ok (.getfield 30, 3) := by decide +kernel
theorem dX4_blockIn_24 : decode cX4_blockIn 24 = .ok (.iload_n 1, 1) := by decide +kernel
theorem dX4_blockIn_25 : decode cX4_blockIn 25 = .ok (.bipush 12, 2) := by decide +kernel
theorem dX4_blockIn_27 : decode cX4_blockIn 27 = .ok (.imul, 1) := by decide +kernel
theorem dX4_blockIn_28 : decode cX4_blockIn 28 = .ok (.iload_n 2, 1) := by decide +kernel
theorem dX4_blockIn_29 : decode cX4_blockIn 29 = .ok (.iadd, 1) := by decide +kernel
theorem dX4_blockIn_30 : decode cX4_blockIn 30 = .ok (.iaload, 1) := by decide +kernel
theorem dX4_blockIn_31 : decode cX4_blockIn 31 = .ok (.goto 4, 3) := by decide +kernel
theorem dX4_blockIn_34 : decode cX4_blockIn 34 = .ok (.iconst (-1), 1) := by decide +kernel
theorem dX4_blockIn_35 : decode cX4_blockIn 35 = .ok (.ireturn, 1) := by decide +kernel
set_option maxRecDepth 20000 in
theorem ggX4_isFiles_X4_kindOf : GoodIn wsX4_isFiles wsX4_kindOf := goodIn_r _ [5, 6, 7, 8, 9, 10, 11, 12, 13, 14, 15, 16, 17] (by decide +kernel) (by decide +kernel)
set_option maxRecDepth 20000 in
theorem gX4_isFiles_X4_kindOf : GoodIn wsX4_isFiles (wsV RX4 52 RX4 yX4_kindOf wsX4_kindOf) := goodIn_app (goodIn_of _ (by decide +kernel)) ggX4_isFiles_X4_kindOf
theorem dX4_isFiles_0 : decode cX4_isFiles 0 = .ok (.aload_n 0, 1) := by decide +kernel
theorem dX4_isFiles_1 : decode cX4_isFiles 1 = .ok (.iload_n 1, 1) := by decide +kernel
theorem dX4_isFiles_2 : decode cX4_isFiles 2 = .ok (.invokevirtual 52, 3) := by decide +kernel
theorem dX4_isFiles_5 : decode cX4_isFiles 5 = .ok (.istore_n 2, 1) := by decide +kernel
theorem dX4_isFiles_6 : decode cX4_isFiles 6 = .ok (.iload_n 2, 1) := by decide +kernel
theorem dX4_isFiles_7 : decode cX4_isFiles 7 = .ok (.ifCond .eq 8, 3) := by decide +kernel
theorem dX4_isFiles_10 : decode cX4_isFiles 10 = .ok (.iload_n 2, 1) := by decide +kernel
theorem dX4_isFiles_11 : decode cX4_isFiles 11 = .ok (.iconst 1, 1) := by decide +kernel
theorem dX4_isFiles_12 : decode cX4_isFiles 12 = .ok (.if_icmp .ne 7, 3) := by decide +kernel
theorem dX4_isFiles_15 : decode cX4_isFiles 15 = .ok (.iconst 1, 1) := by decide +kernel
theorem dX4_isFiles_16 : decode cX4_isFiles 16 = .ok (.goto 4, 3) := by decide +kernel
theorem dX4_isFiles_19 : decode cX4_isFiles 19 = .ok (.iconst 0, 1) := by decide +kernel
theorem dX4_isFiles_20 : decode cX4_isFiles 20 = .ok (.ireturn, 1) := by decide +kernel
set_option maxRecDepth 20000 in
theorem ggX4_isSnapshot_X4_kindOf : GoodIn wsX4_isSnapshot wsX4_kindOf := goodIn_r _ [5, 6, 7, 8, 9, 10, 11, 12, 13, 14, 15, 16, 17] (by decide +kernel) (by decide +kernel)
set_option maxRecDepth 20000 in
theorem gX4_isSnapshot_X4_kindOf : GoodIn wsX4_isSnapshot (wsV RX4 52 RX4 yX4_kindOf wsX4_kindOf) := goodIn_app (goodIn_of _ (by decide +kernel)) ggX4_isSnapshot_X4_kindOf
theorem dX4_isSnapshot_0 : decode cX4_isSnapshot 0 = .ok (.aload_n 0, 1) := by decide +kernel
theorem dX4_isSnapshot_1 : decode cX4_isSnapshot 1 = .ok (.iload_n 1, 1) := by decide +kernel
theorem dX4_isSnapshot_2 : decode cX4_isSnapshot 2 = .ok (.invokevirtual 52, 3) := by decide +kernel
theorem dX4_isSnapshot_5 : decode cX4_isSnapshot 5 = .ok (.istore_n 2, 1) := by decide +kernel
theorem dX4_isSnapshot_6 : decode cX4_isSnapshot 6 = .ok (.iload_n 2, 1) := by decide +kernel
theorem dX4_isSnapshot_7 : decode cX4_isSnapshot 7 = .ok (.iconst 2, 1) := by decide +kernel
theorem dX4_isSnapshot_8 : decode cX4_isSnapshot 8 = .ok (.if_icmp .eq 8, 3) := by decide +kernel
theorem dX4_isSnapshot_11 : decode cX4_isSnapshot 11 = .ok (.iload_n 2, 1) := by decide +kernel
theorem dX4_isSnapshot_12 : decode cX4_isSnapshot 12 = .ok (.iconst 3, 1) := by decide +kernel
theorem dX4_isSnapshot_13 : decode cX4_isSnapshot 13 = .ok (.if_icmp .ne 7, 3) := by decide +kernel
theorem dX4_isSnapshot_16 : decode cX4_isSnapshot 16 = .ok (.iconst 1, 1) := by decide +kernel
theorem dX4_isSnapshot_17 : decode cX4_isSnapshot 17 = .ok (.goto 4, 3) := by decide +kernel
theorem dX4_isSnapshot_20 : decode cX4_isSnapshot 20 = .ok (.iconst 0, 1) := by decide +kernel
theorem dX4_isSnapshot_21 : decode cX4_isSnapshot 21 = .ok (.ireturn, 1) := by decide +kernel
set_option maxRecDepth 20000 in
theorem ggX4_isHolder_X4_kindOf : GoodIn wsX4_isHolder wsX4_kindOf := goodIn_r _ [5, 6, 7, 8, 9, 10, 11, 12, 13, 14, 15, 16, 17] (by decide +kernel) (by decide +kernel)
set_option maxRecDepth 20000 in
theorem gX4_isHolder_X4_kindOf : GoodIn wsX4_isHolder (wsV RX4 52 RX4 yX4_kindOf wsX4_kindOf) := goodIn_app (goodIn_of _ (by decide +kernel)) ggX4_isHolder_X4_kindOf
theorem dX4_isHolder_0 : decode cX4_isHolder 0 = .ok (.aload_n 0, 1) := by decide +kernel
theorem dX4_isHolder_1 : decode cX4_isHolder 1 = .ok (.iload_n 1, 1) := by decide +kernel
theorem dX4_isHolder_2 : decode cX4_isHolder 2 = .ok (.invokevirtual 52, 3) := by decide +kernel
theorem dX4_isHolder_5 : decode cX4_isHolder 5 = .ok (.istore_n 2, 1) := by decide +kernel
theorem dX4_isHolder_6 : decode cX4_isHolder 6 = .ok (.iload_n 2, 1) := by decide +kernel
theorem dX4_isHolder_7 : decode cX4_isHolder 7 = .ok (.iconst (-1), 1) := by decide +kernel
theorem dX4_isHolder_8 : decode cX4_isHolder 8 = .ok (.if_icmp .eq 12, 3) := by decide +kernel
theorem dX4_isHolder_11 : decode cX4_isHolder 11 = .ok (.iload_n 2, 1) := by decide +kernel
theorem dX4_isHolder_12 : decode cX4_isHolder 12 = .ok (.iconst 4, 1) := by decide +kernel
theorem dX4_isHolder_13 : decode cX4_isHolder 13 = .ok (.if_icmp .eq 7, 3) := by decide +kernel
theorem dX4_isHolder_16 : decode cX4_isHolder 16 = .ok (.iconst 1, 1) := by decide +kernel
theorem dX4_isHolder_17 : decode cX4_isHolder 17 = .ok (.goto 4, 3) := by decide +kernel
theorem dX4_isHolder_20 : decode cX4_isHolder 20 = .ok (.iconst 0, 1) := by decide +kernel
theorem dX4_isHolder_21 : decode cX4_isHolder 21 = .ok (.ireturn, 1) := by decide +kernel
set_option maxRecDepth 20000 in
theorem ggX4_spaceOf_X4_blockIn : GoodIn wsX4_spaceOf wsX4_blockIn := goodIn_r _ [5, 6, 12, 13, 14, 15, 16, 17, 18, 19, 20, 21, 22] (by decide +kernel) (by decide +kernel)
set_option maxRecDepth 20000 in
theorem gX4_spaceOf_X4_blockIn : GoodIn wsX4_spaceOf (wsV RX4 56 RX4 yX4_blockIn wsX4_blockIn) := goodIn_app (goodIn_of _ (by decide +kernel)) ggX4_spaceOf_X4_blockIn
set_option maxRecDepth 20000 in
theorem ggX4_spaceOf_X4_sizeOf : GoodIn wsX4_spaceOf wsX4_sizeOf := goodIn_r _ [10, 11, 12, 13, 14, 15, 16, 17, 18, 19, 20, 21, 22] (by decide +kernel) (by decide +kernel)
set_option maxRecDepth 20000 in
theorem gX4_spaceOf_X4_sizeOf : GoodIn wsX4_spaceOf (wsV RX4 60 RX4 yX4_sizeOf wsX4_sizeOf) := goodIn_app (goodIn_of _ (by decide +kernel)) ggX4_spaceOf_X4_sizeOf
theorem dX4_spaceOf_0 : decode cX4_spaceOf 0 = .ok (.lconst 0, 1) := by decide +kernel
theorem dX4_spaceOf_1 : decode cX4_spaceOf 1 = .ok (.lstore_n 2, 1) := by decide +kernel
theorem dX4_spaceOf_2 : decode cX4_spaceOf 2 = .ok (.iconst 0, 1) := by decide +kernel
theorem dX4_spaceOf_3 : decode cX4_spaceOf 3 = .ok (.istore 4, 2) := by decide +kernel
theorem dX4_spaceOf_5 : decode cX4_spaceOf 5 = .ok (.iload 4, 2) := by decide +kernel
theorem dX4_spaceOf_7 : decode cX4_spaceOf 7 = .ok (.bipush 12, 2) := by decide +kernel
theorem dX4_spaceOf_9 : decode cX4_spaceOf 9 = .ok (.if_icmp .ge 24, 3) := by decide +kernel
theorem dX4_spaceOf_12 : decode cX4_spaceOf 12 = .ok (.lload_n 2, 1) := by decide +kernel
theorem dX4_spaceOf_13 : decode cX4_spaceOf 13 = .ok (.aload_n 0, 1) := by decide +kernel
theorem dX4_spaceOf_14 : decode cX4_spaceOf 14 = .ok (.aload_n 0, 1) := by decide +kernel
theorem dX4_spaceOf_15 : decode cX4_spaceOf 15 = .ok (.iload_n 1, 1) := by decide +kernel
theorem dX4_spaceOf_16 : decode cX4_spaceOf 16 = .ok (.iload 4, 2) := by decide +kernel
theorem dX4_spaceOf_18 : decode cX4_spaceOf 18 = .ok (.invokevirtual 56, 3) := by decide +kernel
theorem dX4_spaceOf_21 : decode cX4_spaceOf 21 = .ok (.invokevirtual 60, 3) := by decide +kernel
theorem dX4_spaceOf_24 : decode cX4_spaceOf 24 = .ok (.i2l, 1) := by decide +kernel
theorem dX4_spaceOf_25 : decode cX4_spaceOf 25 = .ok (.ladd, 1) := by decide +kernel
theorem dX4_spaceOf_26 : decode cX4_spaceOf 26 = .ok (.lstore_n 2, 1) := by decide +kernel
theorem dX4_spaceOf_27 : decode cX4_spaceOf 27 = .ok (.iinc 4 1, 3) := by decide +kernel
theorem dX4_spaceOf_30 : decode cX4_spaceOf 30 = .ok (.goto (-25), 3) := by decide +kernel
theorem dX4_spaceOf_33 : decode cX4_spaceOf 33 = .ok (.lload_n 2, 1) := by decide +kernel
theorem dX4_spaceOf_34 : decode cX4_spaceOf 34 = .ok (.lreturn, 1) := by decide +kernel
theorem dX4_refusalOfNumber_0 : decode cX4_refusalOfNumber 0 = .ok (.iload_n 1, 1) := by decide +kernel
theorem dX4_refusalOfNumber_1 : decode cX4_refusalOfNumber 1 = .ok (.ifCond .lt 9, 3) := by decide +kernel
theorem dX4_refusalOfNumber_4 : decode cX4_refusalOfNumber 4 = .ok (.iload_n 1, 1) := by decide +kernel
theorem dX4_refusalOfNumber_5 : decode cX4_refusalOfNumber 5 = .ok (.bipush 20, 2) := by decide +kernel
theorem dX4_refusalOfNumber_7 : decode cX4_refusalOfNumber 7 = .ok (.if_icmp .lt 6, 3) := by decide +kernel
theorem dX4_refusalOfNumber_10 : decode cX4_refusalOfNumber 10 = .ok (.bipush (-12), 2) := by decide +kernel
theorem dX4_refusalOfNumber_12 : decode cX4_refusalOfNumber 12 = .ok (.ireturn, 1) := by decide +kernel
theorem dX4_refusalOfNumber_13 : decode cX4_refusalOfNumber 13 = .ok (.aload_n 0, 1) := by decide +kernel
theorem dX4_refusalOfNumber_14 : decode cX4_refusalOfNumber 14 = .ok (.getfield 9, 3) := by decide +kernel
theorem dX4_refusalOfNumber_17 : decode cX4_refusalOfNumber 17 = .ok (.iload_n 1, 1) := by decide +kernel
theorem dX4_refusalOfNumber_18 : decode cX4_refusalOfNumber 18 = .ok (.iaload, 1) := by decide +kernel
theorem dX4_refusalOfNumber_19 : decode cX4_refusalOfNumber 19 = .ok (.iconst (-1), 1) := by decide +kernel
theorem dX4_refusalOfNumber_20 : decode cX4_refusalOfNumber 20 = .ok (.if_icmp .ne 8, 3) := by decide +kernel
theorem dX4_refusalOfNumber_23 : decode cX4_refusalOfNumber 23 = .ok (.bipush (-11), 2) := by decide +kernel
theorem dX4_refusalOfNumber_25 : decode cX4_refusalOfNumber 25 = .ok (.goto 4, 3) := by decide +kernel
theorem dX4_refusalOfNumber_28 : decode cX4_refusalOfNumber 28 = .ok (.iconst 0, 1) := by decide +kernel
theorem dX4_refusalOfNumber_29 : decode cX4_refusalOfNumber 29 = .ok (.ireturn, 1) := by decide +kernel
set_option maxRecDepth 20000 in
theorem ggX4_refusalAs_X4_refusalOfNumber : GoodIn wsX4_refusalAs wsX4_refusalOfNumber := goodIn_r _ [5, 6, 11, 12, 13, 14, 15, 16, 17, 18, 19, 20, 21] (by decide +kernel) (by decide +kernel)
set_option maxRecDepth 20000 in
theorem gX4_refusalAs_X4_refusalOfNumber : GoodIn wsX4_refusalAs (wsV RX4 63 RX4 yX4_refusalOfNumber wsX4_refusalOfNumber) := goodIn_app (goodIn_of _ (by decide +kernel)) ggX4_refusalAs_X4_refusalOfNumber
set_option maxRecDepth 20000 in
theorem ggX4_refusalAs_X4_kindOf : GoodIn wsX4_refusalAs wsX4_kindOf := goodIn_r _ [10, 6, 11, 12, 13, 14, 15, 16, 17, 18, 19, 20, 21] (by decide +kernel) (by decide +kernel)
set_option maxRecDepth 20000 in
theorem gX4_refusalAs_X4_kindOf : GoodIn wsX4_refusalAs (wsV RX4 52 RX4 yX4_kindOf wsX4_kindOf) := goodIn_app (goodIn_of _ (by decide +kernel)) ggX4_refusalAs_X4_kindOf
theorem dX4_refusalAs_0 : decode cX4_refusalAs 0 = .ok (.aload_n 0, 1) := by decide +kernel
theorem dX4_refusalAs_1 : decode cX4_refusalAs 1 = .ok (.iload_n 1, 1) := by decide +kernel
theorem dX4_refusalAs_2 : decode cX4_refusalAs 2 = .ok (.invokevirtual 63, 3) := by decide +kernel
theorem dX4_refusalAs_5 : decode cX4_refusalAs 5 = .ok (.istore_n 3, 1) := by decide +kernel
theorem dX4_refusalAs_6 : decode cX4_refusalAs 6 = .ok (.iload_n 3, 1) := by decide +kernel
theorem dX4_refusalAs_7 : decode cX4_refusalAs 7 = .ok (.ifCond .eq 5, 3) := by decide +kernel
theorem dX4_refusalAs_10 : decode cX4_refusalAs 10 = .ok (.iload_n 3, 1) := by decide +kernel
theorem dX4_refusalAs_11 : decode cX4_refusalAs 11 = .ok (.ireturn, 1) := by decide +kernel
theorem dX4_refusalAs_12 : decode cX4_refusalAs 12 = .ok (.aload_n 0, 1) := by decide +kernel
theorem dX4_refusalAs_13 : decode cX4_refusalAs 13 = .ok (.iload_n 1, 1) := by decide +kernel
theorem dX4_refusalAs_14 : decode cX4_refusalAs 14 = .ok (.invokevirtual 52, 3) := by decide +kernel
theorem dX4_refusalAs_17 : decode cX4_refusalAs 17 = .ok (.istore 4, 2) := by decide +kernel
theorem dX4_refusalAs_19 : decode cX4_refusalAs 19 = .ok (.iload 4, 2) := by decide +kernel
theorem dX4_refusalAs_21 : decode cX4_refusalAs 21 = .ok (.iload_n 2, 1) := by decide +kernel
theorem dX4_refusalAs_22 : decode cX4_refusalAs 22 = .ok (.if_icmp .eq 24, 3) := by decide +kernel
theorem dX4_refusalAs_25 : decode cX4_refusalAs 25 = .ok (.iload 4, 2) := by decide +kernel
theorem dX4_refusalAs_27 : decode cX4_refusalAs 27 = .ok (.iconst 1, 1) := by decide +kernel
theorem dX4_refusalAs_28 : decode cX4_refusalAs 28 = .ok (.if_icmp .ne 7, 3) := by decide +kernel
theorem dX4_refusalAs_31 : decode cX4_refusalAs 31 = .ok (.iload_n 2, 1) := by decide +kernel
theorem dX4_refusalAs_32 : decode cX4_refusalAs 32 = .ok (.ifCond .eq 14, 3) := by decide +kernel
theorem dX4_refusalAs_35 : decode cX4_refusalAs 35 = .ok (.iload 4, 2) := by decide +kernel
theorem dX4_refusalAs_37 : decode cX4_refusalAs 37 = .ok (.iconst 3, 1) := by decide +kernel
theorem dX4_refusalAs_38 : decode cX4_refusalAs 38 = .ok (.if_icmp .ne 12, 3) := by decide +kernel
theorem dX4_refusalAs_41 : decode cX4_refusalAs 41 = .ok (.iload_n 2, 1) := by decide +kernel
theorem dX4_refusalAs_42 : decode cX4_refusalAs 42 = .ok (.iconst 2, 1) := by decide +kernel
theorem dX4_refusalAs_43 : decode cX4_refusalAs 43 = .ok (.if_icmp .ne 7, 3) := by decide +kernel
theorem dX4_refusalAs_46 : decode cX4_refusalAs 46 = .ok (.iconst 1, 1) := by decide +kernel
theorem dX4_refusalAs_47 : decode cX4_refusalAs 47 = .ok (.goto 4, 3) := by decide +kernel
theorem dX4_refusalAs_50 : decode cX4_refusalAs 50 = .ok (.iconst 0, 1) := by decide +kernel
theorem dX4_refusalAs_51 : decode cX4_refusalAs 51 = .ok (.istore 5, 2) := by decide +kernel
theorem dX4_refusalAs_53 : decode cX4_refusalAs 53 = .ok (.iload 5, 2) := by decide +kernel
theorem dX4_refusalAs_55 : decode cX4_refusalAs 55 = .ok (.ifCond .eq 7, 3) := by decide +kernel
theorem dX4_refusalAs_58 : decode cX4_refusalAs 58 = .ok (.iconst 0, 1) := by decide +kernel
theorem dX4_refusalAs_59 : decode cX4_refusalAs 59 = .ok (.goto 5, 3) := by decide +kernel
theorem dX4_refusalAs_62 : decode cX4_refusalAs 62 = .ok (.bipush (-13), 2) := by decide +kernel
theorem dX4_refusalAs_64 : decode cX4_refusalAs 64 = .ok (.ireturn, 1) := by decide +kernel
set_option maxRecDepth 20000 in
theorem ggX4_refusalAsHolder_X4_refusalOfNumber : GoodIn wsX4_refusalAsHolder wsX4_refusalOfNumber := goodIn_r _ [5, 6, 11, 12, 13, 14, 15, 16, 17, 18, 19, 20, 21] (by decide +kernel) (by decide +kernel)
set_option maxRecDepth 20000 in
theorem gX4_refusalAsHolder_X4_refusalOfNumber : GoodIn wsX4_refusalAsHolder (wsV RX4 63 RX4 yX4_refusalOfNumber wsX4_refusalOfNumber) := goodIn_app (goodIn_of _ (by decide +kernel)) ggX4_refusalAsHolder_X4_refusalOfNumber
set_option maxRecDepth 20000 in
theorem ggX4_refusalAsHolder_X4_kindOf : GoodIn wsX4_refusalAsHolder wsX4_kindOf := goodIn_r _ [10, 6, 11, 12, 13, 14, 15, 16, 17, 18, 19, 20, 21] (by decide +kernel) (by decide +kernel)
set_option maxRecDepth 20000 in
theorem gX4_refusalAsHolder_X4_kindOf : GoodIn wsX4_refusalAsHolder (wsV RX4 52 RX4 yX4_kindOf wsX4_kindOf) := goodIn_app (goodIn_of _ (by decide +kernel)) ggX4_refusalAsHolder_X4_kindOf
theorem dX4_refusalAsHolder_0 : decode cX4_refusalAsHolder 0 = .ok (.aload_n 0, 1) := by decide +kernel
theorem dX4_refusalAsHolder_1 : decode cX4_refusalAsHolder 1 = .ok (.iload_n 1, 1) := by decide +kernel
theorem dX4_refusalAsHolder_2 : decode cX4_refusalAsHolder 2 = .ok (.invokevirtual 63, 3) := by decide +kernel
theorem dX4_refusalAsHolder_5 : decode cX4_refusalAsHolder 5 = .ok (.istore_n 2, 1) := by decide +kernel
theorem dX4_refusalAsHolder_6 : decode cX4_refusalAsHolder 6 = .ok (.iload_n 2, 1) := by decide +kernel
theorem dX4_refusalAsHolder_7 : decode cX4_refusalAsHolder 7 = .ok (.ifCond .eq 5, 3) := by decide +kernel
theorem dX4_refusalAsHolder_10 : decode cX4_refusalAsHolder 10 = .ok (.iload_n 2, 1) := by decide +kernel
theorem dX4_refusalAsHolder_11 : decode cX4_refusalAsHolder 11 = .ok (.ireturn, 1) := by decide +kernel
theorem dX4_refusalAsHolder_12 : decode cX4_refusalAsHolder 12 = .ok (.aload_n 0, 1) := by decide +kernel
theorem dX4_refusalAsHolder_13 : decode cX4_refusalAsHolder 13 = .ok (.iload_n 1, 1) := by decide +kernel
theorem dX4_refusalAsHolder_14 : decode cX4_refusalAsHolder 14 = .ok (.invokevirtual 52, 3) := by decide +kernel
theorem dX4_refusalAsHolder_17 : decode cX4_refusalAsHolder 17 = .ok (.iconst 4, 1) := by decide +kernel
theorem dX4_refusalAsHolder_18 : decode cX4_refusalAsHolder 18 = .ok (.if_icmp .ne 8, 3) := by decide +kernel
theorem dX4_refusalAsHolder_21 : decode cX4_refusalAsHolder 21 = .ok (.bipush (-13), 2) := by decide +kernel
theorem dX4_refusalAsHolder_23 : decode cX4_refusalAsHolder 23 = .ok (.goto 4, 3) := by decide +kernel
theorem dX4_refusalAsHolder_26 : decode cX4_refusalAsHolder 26 = .ok (.iconst 0, 1) := by decide +kernel
theorem dX4_refusalAsHolder_27 : decode cX4_refusalAsHolder 27 = .ok (.ireturn, 1) := by decide +kernel
set_option maxRecDepth 20000 in
theorem ggX4_inChain_X4_prevOf : GoodIn wsX4_inChain wsX4_prevOf := goodIn_r _ [5, 6, 7, 8, 9, 10, 11, 12, 13, 14, 15, 16, 17] (by decide +kernel) (by decide +kernel)
set_option maxRecDepth 20000 in
theorem gX4_inChain_X4_prevOf : GoodIn wsX4_inChain (wsV RX4 66 RX4 yX4_prevOf wsX4_prevOf) := goodIn_app (goodIn_of _ (by decide +kernel)) ggX4_inChain_X4_prevOf
theorem dX4_inChain_0 : decode cX4_inChain 0 = .ok (.iload_n 2, 1) := by decide +kernel
theorem dX4_inChain_1 : decode cX4_inChain 1 = .ok (.ifCond .lt 9, 3) := by decide +kernel
theorem dX4_inChain_4 : decode cX4_inChain 4 = .ok (.iload_n 2, 1) := by decide +kernel
theorem dX4_inChain_5 : decode cX4_inChain 5 = .ok (.bipush 20, 2) := by decide +kernel
theorem dX4_inChain_7 : decode cX4_inChain 7 = .ok (.if_icmp .lt 5, 3) := by decide +kernel
theorem dX4_inChain_10 : decode cX4_inChain 10 = .ok (.iconst (-1), 1) := by decide +kernel
theorem dX4_inChain_11 : decode cX4_inChain 11 = .ok (.ireturn, 1) := by decide +kernel
theorem dX4_inChain_12 : decode cX4_inChain 12 = .ok (.aload_n 0, 1) := by decide +kernel
theorem dX4_inChain_13 : decode cX4_inChain 13 = .ok (.iload_n 1, 1) := by decide +kernel
theorem dX4_inChain_14 : decode cX4_inChain 14 = .ok (.invokevirtual 66, 3) := by decide +kernel
theorem dX4_inChain_17 : decode cX4_inChain 17 = .ok (.istore_n 3, 1) := by decide +kernel
theorem dX4_inChain_18 : decode cX4_inChain 18 = .ok (.iconst 0, 1) := by decide +kernel
theorem dX4_inChain_19 : decode cX4_inChain 19 = .ok (.istore 4, 2) := by decide +kernel
theorem dX4_inChain_21 : decode cX4_inChain 21 = .ok (.iload 4, 2) := by decide +kernel
theorem dX4_inChain_23 : decode cX4_inChain 23 = .ok (.iload_n 2, 1) := by decide +kernel
theorem dX4_inChain_24 : decode cX4_inChain 24 = .ok (.if_icmp .ge 20, 3) := by decide +kernel
theorem dX4_inChain_27 : decode cX4_inChain 27 = .ok (.iload_n 3, 1) := by decide +kernel
theorem dX4_inChain_28 : decode cX4_inChain 28 = .ok (.iconst (-1), 1) := by decide +kernel
theorem dX4_inChain_29 : decode cX4_inChain 29 = .ok (.if_icmp .eq 15, 3) := by decide +kernel
theorem dX4_inChain_32 : decode cX4_inChain 32 = .ok (.aload_n 0, 1) := by decide +kernel
theorem dX4_inChain_33 : decode cX4_inChain 33 = .ok (.iload_n 3, 1) := by decide +kernel
theorem dX4_inChain_34 : decode cX4_inChain 34 = .ok (.invokevirtual 66, 3) := by decide +kernel
theorem dX4_inChain_37 : decode cX4_inChain 37 = .ok (.istore_n 3, 1) := by decide +kernel
theorem dX4_inChain_38 : decode cX4_inChain 38 = .ok (.iinc 4 1, 3) := by decide +kernel
theorem dX4_inChain_41 : decode cX4_inChain 41 = .ok (.goto (-20), 3) := by decide +kernel
theorem dX4_inChain_44 : decode cX4_inChain 44 = .ok (.iload_n 3, 1) := by decide +kernel
theorem dX4_inChain_45 : decode cX4_inChain 45 = .ok (.ireturn, 1) := by decide +kernel
theorem dX4_nextCount_0 : decode cX4_nextCount 0 = .ok (.iconst 0, 1) := by decide +kernel
theorem dX4_nextCount_1 : decode cX4_nextCount 1 = .ok (.istore_n 2, 1) := by decide +kernel
theorem dX4_nextCount_2 : decode cX4_nextCount 2 = .ok (.iconst 0, 1) := by decide +kernel
theorem dX4_nextCount_3 : decode cX4_nextCount 3 = .ok (.istore_n 3, 1) := by decide +kernel
theorem dX4_nextCount_4 : decode cX4_nextCount 4 = .ok (.iload_n 3, 1) := by decide +kernel
theorem dX4_nextCount_5 : decode cX4_nextCount 5 = .ok (.bipush 20, 2) := by decide +kernel
theorem dX4_nextCount_7 : decode cX4_nextCount 7 = .ok (.if_icmp .ge 22, 3) := by decide +kernel
theorem dX4_nextCount_10 : decode cX4_nextCount 10 = .ok (.aload_n 0, 1) := by decide +kernel
theorem dX4_nextCount_11 : decode cX4_nextCount 11 = .ok (.getfield 18, 3) := by decide +kernel
theorem dX4_nextCount_14 : decode cX4_nextCount 14 = .ok (.iload_n 3, 1) := by decide +kernel
theorem dX4_nextCount_15 : decode cX4_nextCount 15 = .ok (.iaload, 1) := by decide +kernel
theorem dX4_nextCount_16 : decode cX4_nextCount 16 = .ok (.iload_n 1, 1) := by decide +kernel
theorem dX4_nextCount_17 : decode cX4_nextCount 17 = .ok (.if_icmp .ne 6, 3) := by decide +kernel
theorem dX4_nextCount_20 : decode cX4_nextCount 20 = .ok (.iinc 2 1, 3) := by decide +kernel
theorem dX4_nextCount_23 : decode cX4_nextCount 23 = .ok (.iinc 3 1, 3) := by decide +kernel
theorem dX4_nextCount_26 : decode cX4_nextCount 26 = .ok (.goto (-22), 3) := by decide +kernel
theorem dX4_nextCount_29 : decode cX4_nextCount 29 = .ok (.iload_n 2, 1) := by decide +kernel
theorem dX4_nextCount_30 : decode cX4_nextCount 30 = .ok (.ireturn, 1) := by decide +kernel
theorem dX4_firstNext_0 : decode cX4_firstNext 0 = .ok (.iconst 0, 1) := by decide +kernel
theorem dX4_firstNext_1 : decode cX4_firstNext 1 = .ok (.istore_n 2, 1) := by decide +kernel
theorem dX4_firstNext_2 : decode cX4_firstNext 2 = .ok (.iload_n 2, 1) := by decide +kernel
theorem dX4_firstNext_3 : decode cX4_firstNext 3 = .ok (.bipush 20, 2) := by decide +kernel
theorem dX4_firstNext_5 : decode cX4_firstNext 5 = .ok (.if_icmp .ge 31, 3) := by decide +kernel
theorem dX4_firstNext_8 : decode cX4_firstNext 8 = .ok (.aload_n 0, 1) := by decide +kernel
theorem dX4_firstNext_9 : decode cX4_firstNext 9 = .ok (.getfield 9, 3) := by decide +kernel
theorem dX4_firstNext_12 : decode cX4_firstNext 12 = .ok (.iload_n 2, 1) := by decide +kernel
theorem dX4_firstNext_13 : decode cX4_firstNext 13 = .ok (.iaload, 1) := by decide +kernel
theorem dX4_firstNext_14 : decode cX4_firstNext 14 = .ok (.iconst (-1), 1) := by decide +kernel
theorem dX4_firstNext_15 : decode cX4_firstNext 15 = .ok (.if_icmp .eq 15, 3) := by decide +kernel
theorem dX4_firstNext_18 : decode cX4_firstNext 18 = .ok (.aload_n 0, 1) := by decide +kernel
theorem dX4_firstNext_19 : decode cX4_firstNext 19 = .ok (.getfield 18, 3) := by decide +kernel
theorem dX4_firstNext_22 : decode cX4_firstNext 22 = .ok (.iload_n 2, 1) := by decide +kernel
theorem dX4_firstNext_23 : decode cX4_firstNext 23 = .ok (.iaload, 1) := by decide +kernel
theorem dX4_firstNext_24 : decode cX4_firstNext 24 = .ok (.iload_n 1, 1) := by decide +kernel
theorem dX4_firstNext_25 : decode cX4_firstNext 25 = .ok (.if_icmp .ne 5, 3) := by decide +kernel
theorem dX4_firstNext_28 : decode cX4_firstNext 28 = .ok (.iload_n 2, 1) := by decide +kernel
theorem dX4_firstNext_29 : decode cX4_firstNext 29 = .ok (.ireturn, 1) := by decide +kernel
theorem dX4_firstNext_30 : decode cX4_firstNext 30 = .ok (.iinc 2 1, 3) := by decide +kernel
theorem dX4_firstNext_33 : decode cX4_firstNext 33 = .ok (.goto (-31), 3) := by decide +kernel
theorem dX4_firstNext_36 : decode cX4_firstNext 36 = .ok (.iconst (-1), 1) := by decide +kernel
theorem dX4_firstNext_37 : decode cX4_firstNext 37 = .ok (.ireturn, 1) := by decide +kernel
theorem dX4_ownCount_0 : decode cX4_ownCount 0 = .ok (.iconst 0, 1) := by decide +kernel
theorem dX4_ownCount_1 : decode cX4_ownCount 1 = .ok (.istore_n 2, 1) := by decide +kernel
theorem dX4_ownCount_2 : decode cX4_ownCount 2 = .ok (.iconst 0, 1) := by decide +kernel
theorem dX4_ownCount_3 : decode cX4_ownCount 3 = .ok (.istore_n 3, 1) := by decide +kernel
theorem dX4_ownCount_4 : decode cX4_ownCount 4 = .ok (.iload_n 3, 1) := by decide +kernel
theorem dX4_ownCount_5 : decode cX4_ownCount 5 = .ok (.bipush 20, 2) := by decide +kernel
theorem dX4_ownCount_7 : decode cX4_ownCount 7 = .ok (.if_icmp .ge 22, 3) := by decide +kernel
theorem dX4_ownCount_10 : decode cX4_ownCount 10 = .ok (.aload_n 0, 1) := by decide +kernel
theorem dX4_ownCount_11 : decode cX4_ownCount 11 = .ok (.getfield 21, 3) := by decide +kernel
theorem dX4_ownCount_14 : decode cX4_ownCount 14 = .ok (.iload_n 3, 1) := by decide +kernel
theorem dX4_ownCount_15 : decode cX4_ownCount 15 = .ok (.iaload, 1) := by decide +kernel
theorem dX4_ownCount_16 : decode cX4_ownCount 16 = .ok (.iload_n 1, 1) := by decide +kernel
theorem dX4_ownCount_17 : decode cX4_ownCount 17 = .ok (.if_icmp .ne 6, 3) := by decide +kernel
theorem dX4_ownCount_20 : decode cX4_ownCount 20 = .ok (.iinc 2 1, 3) := by decide +kernel
theorem dX4_ownCount_23 : decode cX4_ownCount 23 = .ok (.iinc 3 1, 3) := by decide +kernel
theorem dX4_ownCount_26 : decode cX4_ownCount 26 = .ok (.goto (-22), 3) := by decide +kernel
theorem dX4_ownCount_29 : decode cX4_ownCount 29 = .ok (.iload_n 2, 1) := by decide +kernel
theorem dX4_ownCount_30 : decode cX4_ownCount 30 = .ok (.ireturn, 1) := by decide +kernel
set_option maxRecDepth 20000 in
theorem ggX4_originOf_X4_isFiles : GoodIn wsX4_originOf wsX4_isFiles := goodIn_r _ [5, 6, 7, 8, 4, 9, 10, 25, 26, 27, 28, 29, 30, 31, 32, 33, 34, 35] (by decide +kernel) (by decide +kernel)
set_option maxRecDepth 20000 in
theorem gX4_originOf_X4_isFiles : GoodIn wsX4_originOf (wsV RX4 69 RX4 yX4_isFiles wsX4_isFiles) := goodIn_app (goodIn_of _ (by decide +kernel)) ggX4_originOf_X4_isFiles
set_option maxRecDepth 20000 in
theorem ggX4_originOf_X4_ownCount : GoodIn wsX4_originOf wsX4_ownCount := goodIn_r _ [14, 15, 25, 26, 27, 28, 29, 30, 31, 32, 33, 34, 35] (by decide +kernel) (by decide +kernel)
set_option maxRecDepth 20000 in
theorem gX4_originOf_X4_ownCount : GoodIn wsX4_originOf (wsV RX4 73 RX4 yX4_ownCount wsX4_ownCount) := goodIn_app (goodIn_of _ (by decide +kernel)) ggX4_originOf_X4_ownCount
set_option maxRecDepth 20000 in
theorem ggX4_originOf_X4_inChain : GoodIn wsX4_originOf wsX4_inChain := goodIn_r _ [19, 20, 21, 22, 4, 23, 24, 25, 26, 27, 28, 29, 30, 31, 32, 33, 34, 35] (by decide +kernel) (by decide +kernel)
set_option maxRecDepth 20000 in
theorem gX4_originOf_X4_inChain : GoodIn wsX4_originOf (wsV RX4 76 RX4 yX4_inChain wsX4_inChain) := goodIn_app (goodIn_of _ (by decide +kernel)) ggX4_originOf_X4_inChain
theorem dX4_originOf_0 : decode cX4_originOf 0 = .ok (.aload_n 0, 1) := by decide +kernel
theorem dX4_originOf_1 : decode cX4_originOf 1 = .ok (.iload_n 1, 1) := by decide +kernel
theorem dX4_originOf_2 : decode cX4_originOf 2 = .ok (.invokevirtual 69, 3) := by decide +kernel
theorem dX4_originOf_5 : decode cX4_originOf 5 = .ok (.ifCond .eq 16, 3) := by decide +kernel
theorem dX4_originOf_8 : decode cX4_originOf 8 = .ok (.aload_n 0, 1) := by decide +kernel
theorem dX4_originOf_9 : decode cX4_originOf 9 = .ok (.iload_n 1, 1) := by decide +kernel
theorem dX4_originOf_10 : decode cX4_originOf 10 = .ok (.aload_n 0, 1) := by decide +kernel
theorem dX4_originOf_11 : decode cX4_originOf 11 = .ok (.iload_n 1, 1) := by decide +kernel
theorem dX4_originOf_12 : decode cX4_originOf 12 = .ok (.invokevirtual 73, 3) := by decide +kernel
theorem dX4_originOf_15 : decode cX4_originOf 15 = .ok (.invokevirtual 76, 3) := by decide +kernel
theorem dX4_originOf_18 : decode cX4_originOf 18 = .ok (.goto 4, 3) := by decide +kernel
theorem dX4_originOf_21 : decode cX4_originOf 21 = .ok (.iconst (-1), 1) := by decide +kernel
theorem dX4_originOf_22 : decode cX4_originOf 22 = .ok (.ireturn, 1) := by decide +kernel
set_option maxRecDepth 20000 in
theorem ggX4_isLoose_X4_isSnapshot : GoodIn wsX4_isLoose wsX4_isSnapshot := goodIn_r _ [5, 6, 7, 8, 4, 9, 10, 21, 22, 23, 24, 25, 26, 27, 28, 29, 30, 31] (by decide +kernel) (by decide +kernel)
set_option maxRecDepth 20000 in
theorem gX4_isLoose_X4_isSnapshot : GoodIn wsX4_isLoose (wsV RX4 79 RX4 yX4_isSnapshot wsX4_isSnapshot) := goodIn_app (goodIn_of _ (by decide +kernel)) ggX4_isLoose_X4_isSnapshot
set_option maxRecDepth 20000 in
theorem ggX4_isLoose_X4_tagsOf : GoodIn wsX4_isLoose wsX4_tagsOf := goodIn_r _ [14, 15, 21, 22, 23, 24, 25, 26, 27, 28, 29, 30, 31] (by decide +kernel) (by decide +kernel)
set_option maxRecDepth 20000 in
theorem gX4_isLoose_X4_tagsOf : GoodIn wsX4_isLoose (wsV RX4 82 RX4 yX4_tagsOf wsX4_tagsOf) := goodIn_app (goodIn_of _ (by decide +kernel)) ggX4_isLoose_X4_tagsOf
set_option maxRecDepth 20000 in
theorem ggX4_isLoose_X4_nextCount : GoodIn wsX4_isLoose wsX4_nextCount := goodIn_r _ [19, 20, 21, 22, 23, 24, 25, 26, 27, 28, 29, 30, 31] (by decide +kernel) (by decide +kernel)
set_option maxRecDepth 20000 in
theorem gX4_isLoose_X4_nextCount : GoodIn wsX4_isLoose (wsV RX4 85 RX4 yX4_nextCount wsX4_nextCount) := goodIn_app (goodIn_of _ (by decide +kernel)) ggX4_isLoose_X4_nextCount
theorem dX4_isLoose_0 : decode cX4_isLoose 0 = .ok (.aload_n 0, 1) := by decide +kernel
theorem dX4_isLoose_1 : decode cX4_isLoose 1 = .ok (.iload_n 1, 1) := by decide +kernel
theorem dX4_isLoose_2 : decode cX4_isLoose 2 = .ok (.invokevirtual 79, 3) := by decide +kernel
theorem dX4_isLoose_5 : decode cX4_isLoose 5 = .ok (.ifCond .eq 24, 3) := by decide +kernel
theorem dX4_isLoose_8 : decode cX4_isLoose 8 = .ok (.aload_n 0, 1) := by decide +kernel
theorem dX4_isLoose_9 : decode cX4_isLoose 9 = .ok (.iload_n 1, 1) := by decide +kernel
theorem dX4_isLoose_10 : decode cX4_isLoose 10 = .ok (.invokevirtual 82, 3) := by decide +kernel
theorem dX4_isLoose_13 : decode cX4_isLoose 13 = .ok (.ifCond .ne 16, 3) := by decide +kernel
theorem dX4_isLoose_16 : decode cX4_isLoose 16 = .ok (.aload_n 0, 1) := by decide +kernel
theorem dX4_isLoose_17 : decode cX4_isLoose 17 = .ok (.iload_n 1, 1) := by decide +kernel
theorem dX4_isLoose_18 : decode cX4_isLoose 18 = .ok (.invokevirtual 85, 3) := by decide +kernel
theorem dX4_isLoose_21 : decode cX4_isLoose 21 = .ok (.iconst 1, 1) := by decide +kernel
theorem dX4_isLoose_22 : decode cX4_isLoose 22 = .ok (.if_icmp .ne 7, 3) := by decide +kernel
theorem dX4_isLoose_25 : decode cX4_isLoose 25 = .ok (.iconst 1, 1) := by decide +kernel
theorem dX4_isLoose_26 : decode cX4_isLoose 26 = .ok (.goto 4, 3) := by decide +kernel
theorem dX4_isLoose_29 : decode cX4_isLoose 29 = .ok (.iconst 0, 1) := by decide +kernel
theorem dX4_isLoose_30 : decode cX4_isLoose 30 = .ok (.ireturn, 1) := by decide +kernel
theorem dX4_sizeOf_0 : decode cX4_sizeOf 0 = .ok (.iload_n 1, 1) := by decide +kernel
theorem dX4_sizeOf_1 : decode cX4_sizeOf 1 = .ok (.ifCond .lt 18, 3) := by decide +kernel
theorem dX4_sizeOf_4 : decode cX4_sizeOf 4 = .ok (.iload_n 1, 1) := by decide +kernel
theorem dX4_sizeOf_5 : decode cX4_sizeOf 5 = .ok (.bipush 96, 2) := by decide +kernel
theorem dX4_sizeOf_7 : decode cX4_sizeOf 7 = .ok (.if_icmp .ge 12, 3) := by decide +kernel
theorem dX4_sizeOf_10 : decode cX4_sizeOf 10 = .ok (.aload_n 0, 1) := by decide +kernel
theorem dX4_sizeOf_11 : decode cX4_sizeOf 11 = .ok (.getfield 33, 3) := by decide +kernel
theorem dX4_sizeOf_14 : decode cX4_sizeOf 14 = .ok (.iload_n 1, 1) := by decide +kernel
theorem dX4_sizeOf_15 : decode cX4_sizeOf 15 = .ok (.iaload, 1) := by decide +kernel
theorem dX4_sizeOf_16 : decode cX4_sizeOf 16 = .ok (.goto 4, 3) := by decide +kernel
theorem dX4_sizeOf_19 : decode cX4_sizeOf 19 = .ok (.iconst 0, 1) := by decide +kernel
theorem dX4_sizeOf_20 : decode cX4_sizeOf 20 = .ok (.ireturn, 1) := by decide +kernel
theorem dX4_birthOf_0 : decode cX4_birthOf 0 = .ok (.iload_n 1, 1) := by decide +kernel
theorem dX4_birthOf_1 : decode cX4_birthOf 1 = .ok (.ifCond .lt 18, 3) := by decide +kernel
theorem dX4_birthOf_4 : decode cX4_birthOf 4 = .ok (.iload_n 1, 1) := by decide +kernel
theorem dX4_birthOf_5 : decode cX4_birthOf 5 = .ok (.bipush 96, 2) := by decide +kernel
theorem dX4_birthOf_7 : decode cX4_birthOf 7 = .ok (.if_icmp .ge 12, 3) := by decide +kernel
theorem dX4_birthOf_10 : decode cX4_birthOf 10 = .ok (.aload_n 0, 1) := by decide +kernel
theorem dX4_birthOf_11 : decode cX4_birthOf 11 = .ok (.getfield 36, 3) := by decide +kernel
theorem dX4_birthOf_14 : decode cX4_birthOf 14 = .ok (.iload_n 1, 1) := by decide +kernel
theorem dX4_birthOf_15 : decode cX4_birthOf 15 = .ok (.iaload, 1) := by decide +kernel
theorem dX4_birthOf_16 : decode cX4_birthOf 16 = .ok (.goto 4, 3) := by decide +kernel
theorem dX4_birthOf_19 : decode cX4_birthOf 19 = .ok (.iconst 0, 1) := by decide +kernel
theorem dX4_birthOf_20 : decode cX4_birthOf 20 = .ok (.ireturn, 1) := by decide +kernel
theorem dX4_thingCount_0 : decode cX4_thingCount 0 = .ok (.iconst 0, 1) := by decide +kernel
theorem dX4_thingCount_1 : decode cX4_thingCount 1 = .ok (.istore_n 1, 1) := by decide +kernel
theorem dX4_thingCount_2 : decode cX4_thingCount 2 = .ok (.iconst 0, 1) := by decide +kernel
theorem dX4_thingCount_3 : decode cX4_thingCount 3 = .ok (.istore_n 2, 1) := by decide +kernel
theorem dX4_thingCount_4 : decode cX4_thingCount 4 = .ok (.iload_n 2, 1) := by decide +kernel
theorem dX4_thingCount_5 : decode cX4_thingCount 5 = .ok (.bipush 20, 2) := by decide +kernel
theorem dX4_thingCount_7 : decode cX4_thingCount 7 = .ok (.if_icmp .ge 22, 3) := by decide +kernel
theorem dX4_thingCount_10 : decode cX4_thingCount 10 = .ok (.aload_n 0, 1) := by decide +kernel
theorem dX4_thingCount_11 : decode cX4_thingCount 11 = .ok (.getfield 9, 3) := by decide +kernel
theorem dX4_thingCount_14 : decode cX4_thingCount 14 = .ok (.iload_n 2, 1) := by decide +kernel
theorem dX4_thingCount_15 : decode cX4_thingCount 15 = .ok (.iaload, 1) := by decide +kernel
theorem dX4_thingCount_16 : decode cX4_thingCount 16 = .ok (.iconst (-1), 1) := by decide +kernel
theorem dX4_thingCount_17 : decode cX4_thingCount 17 = .ok (.if_icmp .eq 6, 3) := by decide +kernel
theorem dX4_thingCount_20 : decode cX4_thingCount 20 = .ok (.iinc 1 1, 3) := by decide +kernel
theorem dX4_thingCount_23 : decode cX4_thingCount 23 = .ok (.iinc 2 1, 3) := by decide +kernel
theorem dX4_thingCount_26 : decode cX4_thingCount 26 = .ok (.goto (-22), 3) := by decide +kernel
theorem dX4_thingCount_29 : decode cX4_thingCount 29 = .ok (.iload_n 1, 1) := by decide +kernel
theorem dX4_thingCount_30 : decode cX4_thingCount 30 = .ok (.ireturn, 1) := by decide +kernel
theorem dX4_blockCount_0 : decode cX4_blockCount 0 = .ok (.iconst 0, 1) := by decide +kernel
theorem dX4_blockCount_1 : decode cX4_blockCount 1 = .ok (.istore_n 1, 1) := by decide +kernel
theorem dX4_blockCount_2 : decode cX4_blockCount 2 = .ok (.iconst 0, 1) := by decide +kernel
theorem dX4_blockCount_3 : decode cX4_blockCount 3 = .ok (.istore_n 2, 1) := by decide +kernel
theorem dX4_blockCount_4 : decode cX4_blockCount 4 = .ok (.iload_n 2, 1) := by decide +kernel
theorem dX4_blockCount_5 : decode cX4_blockCount 5 = .ok (.bipush 96, 2) := by decide +kernel
theorem dX4_blockCount_7 : decode cX4_blockCount 7 = .ok (.if_icmp .ge 21, 3) := by decide +kernel
theorem dX4_blockCount_10 : decode cX4_blockCount 10 = .ok (.aload_n 0, 1) := by decide +kernel
theorem dX4_blockCount_11 : decode cX4_blockCount 11 = .ok (.getfield 33, 3) := by decide +kernel
theorem dX4_blockCount_14 : decode cX4_blockCount 14 = .ok (.iload_n 2, 1) := by decide +kernel
theorem dX4_blockCount_15 : decode cX4_blockCount 15 = .ok (.iaload, 1) := by decide +kernel
theorem dX4_blockCount_16 : decode cX4_blockCount 16 = .ok (.ifCond .eq 6, 3) := by decide +kernel
theorem dX4_blockCount_19 : decode cX4_blockCount 19 = .ok (.iinc 1 1, 3) := by decide +kernel
theorem dX4_blockCount_22 : decode cX4_blockCount 22 = .ok (.iinc 2 1, 3) := by decide +kernel
theorem dX4_blockCount_25 : decode cX4_blockCount 25 = .ok (.goto (-21), 3) := by decide +kernel
theorem dX4_blockCount_28 : decode cX4_blockCount 28 = .ok (.iload_n 1, 1) := by decide +kernel
theorem dX4_blockCount_29 : decode cX4_blockCount 29 = .ok (.ireturn, 1) := by decide +kernel
theorem dX4_sizeOfAll_0 : decode cX4_sizeOfAll 0 = .ok (.lconst 0, 1) := by decide +kernel
theorem dX4_sizeOfAll_1 : decode cX4_sizeOfAll 1 = .ok (.lstore_n 1, 1) := by decide +kernel
theorem dX4_sizeOfAll_2 : decode cX4_sizeOfAll 2 = .ok (.iconst 0, 1) := by decide +kernel
theorem dX4_sizeOfAll_3 : decode cX4_sizeOfAll 3 = .ok (.istore_n 3, 1) := by decide +kernel
theorem dX4_sizeOfAll_4 : decode cX4_sizeOfAll 4 = .ok (.iload_n 3, 1) := by decide +kernel
theorem dX4_sizeOfAll_5 : decode cX4_sizeOfAll 5 = .ok (.bipush 96, 2) := by decide +kernel
theorem dX4_sizeOfAll_7 : decode cX4_sizeOfAll 7 = .ok (.if_icmp .ge 19, 3) := by decide +kernel
theorem dX4_sizeOfAll_10 : decode cX4_sizeOfAll 10 = .ok (.lload_n 1, 1) := by decide +kernel
theorem dX4_sizeOfAll_11 : decode cX4_sizeOfAll 11 = .ok (.aload_n 0, 1) := by decide +kernel
theorem dX4_sizeOfAll_12 : decode cX4_sizeOfAll 12 = .ok (.getfield 33, 3) := by decide +kernel
theorem dX4_sizeOfAll_15 : decode cX4_sizeOfAll 15 = .ok (.iload_n 3, 1) := by decide +kernel
theorem dX4_sizeOfAll_16 : decode cX4_sizeOfAll 16 = .ok (.iaload, 1) := by decide +kernel
theorem dX4_sizeOfAll_17 : decode cX4_sizeOfAll 17 = .ok (.i2l, 1) := by decide +kernel
theorem dX4_sizeOfAll_18 : decode cX4_sizeOfAll 18 = .ok (.ladd, 1) := by decide +kernel
theorem dX4_sizeOfAll_19 : decode cX4_sizeOfAll 19 = .ok (.lstore_n 1, 1) := by decide +kernel
theorem dX4_sizeOfAll_20 : decode cX4_sizeOfAll 20 = .ok (.iinc 3 1, 3) := by decide +kernel
theorem dX4_sizeOfAll_23 : decode cX4_sizeOfAll 23 = .ok (.goto (-19), 3) := by decide +kernel
theorem dX4_sizeOfAll_26 : decode cX4_sizeOfAll 26 = .ok (.lload_n 1, 1) := by decide +kernel
theorem dX4_sizeOfAll_27 : decode cX4_sizeOfAll 27 = .ok (.lreturn, 1) := by decide +kernel
theorem dX4_now_0 : decode cX4_now 0 = .ok (.aload_n 0, 1) := by decide +kernel
theorem dX4_now_1 : decode cX4_now 1 = .ok (.getfield 39, 3) := by decide +kernel
theorem dX4_now_4 : decode cX4_now 4 = .ok (.ireturn, 1) := by decide +kernel
theorem dX4_freedCount_0 : decode cX4_freedCount 0 = .ok (.aload_n 0, 1) := by decide +kernel
theorem dX4_freedCount_1 : decode cX4_freedCount 1 = .ok (.getfield 43, 3) := by decide +kernel
theorem dX4_freedCount_4 : decode cX4_freedCount 4 = .ok (.ireturn, 1) := by decide +kernel
theorem dX4_newThing_0 : decode cX4_newThing 0 = .ok (.iconst 0, 1) := by decide +kernel
theorem dX4_newThing_1 : decode cX4_newThing 1 = .ok (.istore_n 3, 1) := by decide +kernel
theorem dX4_newThing_2 : decode cX4_newThing 2 = .ok (.iload_n 3, 1) := by decide +kernel
theorem dX4_newThing_3 : decode cX4_newThing 3 = .ok (.bipush 20, 2) := by decide +kernel
theorem dX4_newThing_5 : decode cX4_newThing 5 = .ok (.if_icmp .ge 35, 3) := by decide +kernel
theorem dX4_newThing_8 : decode cX4_newThing 8 = .ok (.aload_n 0, 1) := by decide +kernel
theorem dX4_newThing_9 : decode cX4_newThing 9 = .ok (.getfield 9, 3) := by decide +kernel
theorem dX4_newThing_12 : decode cX4_newThing 12 = .ok (.iload_n 3, 1) := by decide +kernel
theorem dX4_newThing_13 : decode cX4_newThing 13 = .ok (.iaload, 1) := by decide +kernel
theorem dX4_newThing_14 : decode cX4_newThing 14 = .ok (.iconst (-1), 1) := by decide +kernel
theorem dX4_newThing_15 : decode cX4_newThing 15 = .ok (.if_icmp .ne 19, 3) := by decide +kernel
theorem dX4_newThing_18 : decode cX4_newThing 18 = .ok (.aload_n 0, 1) := by decide +kernel
theorem dX4_newThing_19 : decode cX4_newThing 19 = .ok (.getfield 9, 3) := by decide +kernel
theorem dX4_newThing_22 : decode cX4_newThing 22 = .ok (.iload_n 3, 1) := by decide +kernel
theorem dX4_newThing_23 : decode cX4_newThing 23 = .ok (.iload_n 1, 1) := by decide +kernel
theorem dX4_newThing_24 : decode cX4_newThing 24 = .ok (.iastore, 1) := by decide +kernel
theorem dX4_newThing_25 : decode cX4_newThing 25 = .ok (.aload_n 0, 1) := by decide +kernel
theorem dX4_newThing_26 : decode cX4_newThing 26 = .ok (.getfield 15, 3) := by decide +kernel
theorem dX4_newThing_29 : decode cX4_newThing 29 = .ok (.iload_n 3, 1) := by decide +kernel
theorem dX4_newThing_30 : decode cX4_newThing 30 = .ok (.iload_n 2, 1) := by decide +kernel
theorem dX4_newThing_31 : decode cX4_newThing 31 = .ok (.iastore, 1) := by decide +kernel
theorem dX4_newThing_32 : decode cX4_newThing 32 = .ok (.iload_n 3, 1) := by decide +kernel
theorem dX4_newThing_33 : decode cX4_newThing 33 = .ok (.ireturn, 1) := by decide +kernel
theorem dX4_newThing_34 : decode cX4_newThing 34 = .ok (.iinc 3 1, 3) := by decide +kernel
theorem dX4_newThing_37 : decode cX4_newThing 37 = .ok (.goto (-35), 3) := by decide +kernel
theorem dX4_newThing_40 : decode cX4_newThing 40 = .ok (.bipush (-4), 2) := by decide +kernel
theorem dX4_newThing_42 : decode cX4_newThing 42 = .ok (.ireturn, 1) := by decide +kernel
theorem dX4_dropThing_0 : decode cX4_dropThing 0 = .ok (.iload_n 1, 1) := by decide +kernel
theorem dX4_dropThing_1 : decode cX4_dropThing 1 = .ok (.ifCond .lt 9, 3) := by decide +kernel
theorem dX4_dropThing_4 : decode cX4_dropThing 4 = .ok (.iload_n 1, 1) := by decide +kernel
theorem dX4_dropThing_5 : decode cX4_dropThing 5 = .ok (.bipush 20, 2) := by decide +kernel
theorem dX4_dropThing_7 : decode cX4_dropThing 7 = .ok (.if_icmp .lt 4, 3) := by decide +kernel
theorem dX4_dropThing_10 : decode cX4_dropThing 10 = .ok (.return_, 1) := by decide +kernel
theorem dX4_dropThing_11 : decode cX4_dropThing 11 = .ok (.aload_n 0, 1) := by decide +kernel
theorem dX4_dropThing_12 : decode cX4_dropThing 12 = .ok (.getfield 9, 3) := by decide +kernel
theorem dX4_dropThing_15 : decode cX4_dropThing 15 = .ok (.iload_n 1, 1) := by decide +kernel
theorem dX4_dropThing_16 : decode cX4_dropThing 16 = .ok (.iconst (-1), 1) := by decide +kernel
theorem dX4_dropThing_17 : decode cX4_dropThing 17 = .ok (.iastore, 1) := by decide +kernel
theorem dX4_dropThing_18 : decode cX4_dropThing 18 = .ok (.aload_n 0, 1) := by decide +kernel
theorem dX4_dropThing_19 : decode cX4_dropThing 19 = .ok (.getfield 15, 3) := by decide +kernel
theorem dX4_dropThing_22 : decode cX4_dropThing 22 = .ok (.iload_n 1, 1) := by decide +kernel
theorem dX4_dropThing_23 : decode cX4_dropThing 23 = .ok (.iconst 0, 1) := by decide +kernel
theorem dX4_dropThing_24 : decode cX4_dropThing 24 = .ok (.iastore, 1) := by decide +kernel
theorem dX4_dropThing_25 : decode cX4_dropThing 25 = .ok (.aload_n 0, 1) := by decide +kernel
theorem dX4_dropThing_26 : decode cX4_dropThing 26 = .ok (.getfield 18, 3) := by decide +kernel
theorem dX4_dropThing_29 : decode cX4_dropThing 29 = .ok (.iload_n 1, 1) := by decide +kernel
theorem dX4_dropThing_30 : decode cX4_dropThing 30 = .ok (.iconst (-1), 1) := by decide +kernel
theorem dX4_dropThing_31 : decode cX4_dropThing 31 = .ok (.iastore, 1) := by decide +kernel
theorem dX4_dropThing_32 : decode cX4_dropThing 32 = .ok (.aload_n 0, 1) := by decide +kernel
theorem dX4_dropThing_33 : decode cX4_dropThing 33 = .ok (.getfield 21, 3) := by decide +kernel
theorem dX4_dropThing_36 : decode cX4_dropThing 36 = .ok (.iload_n 1, 1) := by decide +kernel
theorem dX4_dropThing_37 : decode cX4_dropThing 37 = .ok (.iconst (-1), 1) := by decide +kernel
theorem dX4_dropThing_38 : decode cX4_dropThing 38 = .ok (.iastore, 1) := by decide +kernel
theorem dX4_dropThing_39 : decode cX4_dropThing 39 = .ok (.aload_n 0, 1) := by decide +kernel
theorem dX4_dropThing_40 : decode cX4_dropThing 40 = .ok (.getfield 24, 3) := by decide +kernel
theorem dX4_dropThing_43 : decode cX4_dropThing 43 = .ok (.iload_n 1, 1) := by decide +kernel
theorem dX4_dropThing_44 : decode cX4_dropThing 44 = .ok (.iconst 0, 1) := by decide +kernel
theorem dX4_dropThing_45 : decode cX4_dropThing 45 = .ok (.iastore, 1) := by decide +kernel
theorem dX4_dropThing_46 : decode cX4_dropThing 46 = .ok (.aload_n 0, 1) := by decide +kernel
theorem dX4_dropThing_47 : decode cX4_dropThing 47 = .ok (.getfield 27, 3) := by decide +kernel
theorem dX4_dropThing_50 : decode cX4_dropThing 50 = .ok (.iload_n 1, 1) := by decide +kernel
theorem dX4_dropThing_51 : decode cX4_dropThing 51 = .ok (.iconst (-1), 1) := by decide +kernel
theorem dX4_dropThing_52 : decode cX4_dropThing 52 = .ok (.iastore, 1) := by decide +kernel
theorem dX4_dropThing_53 : decode cX4_dropThing 53 = .ok (.iconst 0, 1) := by decide +kernel
theorem dX4_dropThing_54 : decode cX4_dropThing 54 = .ok (.istore_n 2, 1) := by decide +kernel
theorem dX4_dropThing_55 : decode cX4_dropThing 55 = .ok (.iload_n 2, 1) := by decide +kernel
theorem dX4_dropThing_56 : decode cX4_dropThing 56 = .ok (.bipush 12, 2) := by decide +kernel
theorem dX4_dropThing_58 : decode cX4_dropThing 58 = .ok (.if_icmp .ge 21, 3) := by decide +kernel
theorem dX4_dropThing_61 : decode cX4_dropThing 61 = .ok (.aload_n 0, 1) := by decide +kernel
theorem dX4_dropThing_62 : decode cX4_dropThing 62 = .ok (.getfield 30, 3) := by decide +kernel
theorem dX4_dropThing_65 : decode cX4_dropThing 65 = .ok (.iload_n 1, 1) := by decide +kernel
theorem dX4_dropThing_66 : decode cX4_dropThing 66 = .ok (.bipush 12, 2) := by decide +kernel
theorem dX4_dropThing_68 : decode cX4_dropThing 68 = .ok (.imul, 1) := by decide +kernel
theorem dX4_dropThing_69 : decode cX4_dropThing 69 = .ok (.iload_n 2, 1) := by decide +kernel
theorem dX4_dropThing_70 : decode cX4_dropThing 70 = .ok (.iadd, 1) := by decide +kernel
theorem dX4_dropThing_71 : decode cX4_dropThing 71 = .ok (.iconst (-1), 1) := by decide +kernel
theorem dX4_dropThing_72 : decode cX4_dropThing 72 = .ok (.iastore, 1) := by decide +kernel
theorem dX4_dropThing_73 : decode cX4_dropThing 73 = .ok (.iinc 2 1, 3) := by decide +kernel
theorem dX4_dropThing_76 : decode cX4_dropThing 76 = .ok (.goto (-21), 3) := by decide +kernel
theorem dX4_dropThing_79 : decode cX4_dropThing 79 = .ok (.return_, 1) := by decide +kernel
theorem dX4_newBlock_0 : decode cX4_newBlock 0 = .ok (.iconst 0, 1) := by decide +kernel
theorem dX4_newBlock_1 : decode cX4_newBlock 1 = .ok (.istore_n 2, 1) := by decide +kernel
theorem dX4_newBlock_2 : decode cX4_newBlock 2 = .ok (.iload_n 2, 1) := by decide +kernel
theorem dX4_newBlock_3 : decode cX4_newBlock 3 = .ok (.bipush 96, 2) := by decide +kernel
theorem dX4_newBlock_5 : decode cX4_newBlock 5 = .ok (.if_icmp .ge 37, 3) := by decide +kernel
theorem dX4_newBlock_8 : decode cX4_newBlock 8 = .ok (.aload_n 0, 1) := by decide +kernel
theorem dX4_newBlock_9 : decode cX4_newBlock 9 = .ok (.getfield 33, 3) := by decide +kernel
theorem dX4_newBlock_12 : decode cX4_newBlock 12 = .ok (.iload_n 2, 1) := by decide +kernel
theorem dX4_newBlock_13 : decode cX4_newBlock 13 = .ok (.iaload, 1) := by decide +kernel
theorem dX4_newBlock_14 : decode cX4_newBlock 14 = .ok (.ifCond .ne 22, 3) := by decide +kernel
theorem dX4_newBlock_17 : decode cX4_newBlock 17 = .ok (.aload_n 0, 1) := by decide +kernel
theorem dX4_newBlock_18 : decode cX4_newBlock 18 = .ok (.getfield 33, 3) := by decide +kernel
theorem dX4_newBlock_21 : decode cX4_newBlock 21 = .ok (.iload_n 2, 1) := by decide +kernel
theorem dX4_newBlock_22 : decode cX4_newBlock 22 = .ok (.iload_n 1, 1) := by decide +kernel
theorem dX4_newBlock_23 : decode cX4_newBlock 23 = .ok (.iastore, 1) := by decide +kernel
theorem dX4_newBlock_24 : decode cX4_newBlock 24 = .ok (.aload_n 0, 1) := by decide +kernel
theorem dX4_newBlock_25 : decode cX4_newBlock 25 = .ok (.getfield 36, 3) := by decide +kernel
theorem dX4_newBlock_28 : decode cX4_newBlock 28 = .ok (.iload_n 2, 1) := by decide +kernel
theorem dX4_newBlock_29 : decode cX4_newBlock 29 = .ok (.aload_n 0, 1) := by decide +kernel
theorem dX4_newBlock_30 : decode cX4_newBlock 30 = .ok (.getfield 39, 3) := by decide +kernel
theorem dX4_newBlock_33 : decode cX4_newBlock 33 = .ok (.iastore, 1) := by decide +kernel
theorem dX4_newBlock_34 : decode cX4_newBlock 34 = .ok (.iload_n 2, 1) := by decide +kernel
theorem dX4_newBlock_35 : decode cX4_newBlock 35 = .ok (.ireturn, 1) := by decide +kernel
theorem dX4_newBlock_36 : decode cX4_newBlock 36 = .ok (.iinc 2 1, 3) := by decide +kernel
theorem dX4_newBlock_39 : decode cX4_newBlock 39 = .ok (.goto (-37), 3) := by decide +kernel
theorem dX4_newBlock_42 : decode cX4_newBlock 42 = .ok (.bipush (-4), 2) := by decide +kernel
theorem dX4_newBlock_44 : decode cX4_newBlock 44 = .ok (.ireturn, 1) := by decide +kernel
theorem dX4_freeBlock_0 : decode cX4_freeBlock 0 = .ok (.iload_n 1, 1) := by decide +kernel
theorem dX4_freeBlock_1 : decode cX4_freeBlock 1 = .ok (.ifCond .lt 33, 3) := by decide +kernel
theorem dX4_freeBlock_4 : decode cX4_freeBlock 4 = .ok (.iload_n 1, 1) := by decide +kernel
theorem dX4_freeBlock_5 : decode cX4_freeBlock 5 = .ok (.bipush 96, 2) := by decide +kernel
theorem dX4_freeBlock_7 : decode cX4_freeBlock 7 = .ok (.if_icmp .ge 27, 3) := by decide +kernel
theorem dX4_freeBlock_10 : decode cX4_freeBlock 10 = .ok (.aload_n 0, 1) := by decide +kernel
theorem dX4_freeBlock_11 : decode cX4_freeBlock 11 = .ok (.getfield 33, 3) := by decide +kernel
theorem dX4_freeBlock_14 : decode cX4_freeBlock 14 = .ok (.iload_n 1, 1) := by decide +kernel
theorem dX4_freeBlock_15 : decode cX4_freeBlock 15 = .ok (.iconst 0, 1) := by decide +kernel
theorem dX4_freeBlock_16 : decode cX4_freeBlock 16 = .ok (.iastore, 1) := by decide +kernel
theorem dX4_freeBlock_17 : decode cX4_freeBlock 17 = .ok (.aload_n 0, 1) := by decide +kernel
theorem dX4_freeBlock_18 : decode cX4_freeBlock 18 = .ok (.getfield 36, 3) := by decide +kernel
theorem dX4_freeBlock_21 : decode cX4_freeBlock 21 = .ok (.iload_n 1, 1) := by decide +kernel
theorem dX4_freeBlock_22 : decode cX4_freeBlock 22 = .ok (.iconst 0, 1) := by decide +kernel
theorem dX4_freeBlock_23 : decode cX4_freeBlock 23 = .ok (.iastore, 1) := by decide +kernel
theorem dX4_freeBlock_24 : decode cX4_freeBlock 24 = .ok (.aload_n 0, 1) := by decide +kernel
theorem dX4_freeBlock_25 : decode cX4_freeBlock 25 = .ok (.dup, 1) := by decide +kernel
theorem dX4_freeBlock_26 : decode cX4_freeBlock 26 = .ok (.getfield 43, 3) := by decide +kernel
theorem dX4_freeBlock_29 : decode cX4_freeBlock 29 = .ok (.iconst 1, 1) := by decide +kernel
theorem dX4_freeBlock_30 : decode cX4_freeBlock 30 = .ok (.iadd, 1) := by decide +kernel
theorem dX4_freeBlock_31 : decode cX4_freeBlock 31 = .ok (.putfield 43, 3) := by decide +kernel
theorem dX4_freeBlock_34 : decode cX4_freeBlock 34 = .ok (.return_, 1) := by decide +kernel
theorem dX4_setSlot_0 : decode cX4_setSlot 0 = .ok (.iload_n 1, 1) := by decide +kernel
theorem dX4_setSlot_1 : decode cX4_setSlot 1 = .ok (.ifCond .lt 31, 3) := by decide +kernel
theorem dX4_setSlot_4 : decode cX4_setSlot 4 = .ok (.iload_n 1, 1) := by decide +kernel
theorem dX4_setSlot_5 : decode cX4_setSlot 5 = .ok (.bipush 20, 2) := by decide +kernel
theorem dX4_setSlot_7 : decode cX4_setSlot 7 = .ok (.if_icmp .ge 25, 3) := by decide +kernel
theorem dX4_setSlot_10 : decode cX4_setSlot 10 = .ok (.iload_n 2, 1) := by decide +kernel
theorem dX4_setSlot_11 : decode cX4_setSlot 11 = .ok (.ifCond .lt 21, 3) := by decide +kernel
theorem dX4_setSlot_14 : decode cX4_setSlot 14 = .ok (.iload_n 2, 1) := by decide +kernel
theorem dX4_setSlot_15 : decode cX4_setSlot 15 = .ok (.bipush 12, 2) := by decide +kernel
theorem dX4_setSlot_17 : decode cX4_setSlot 17 = .ok (.if_icmp .ge 15, 3) := by decide +kernel
theorem dX4_setSlot_20 : decode cX4_setSlot 20 = .ok (.aload_n 0, 1) := by decide +kernel
theorem dX4_setSlot_21 : decode cX4_setSlot 21 = .ok (.getfield 30, 3) := by decide +kernel
theorem dX4_setSlot_24 : decode cX4_setSlot 24 = .ok (.iload_n 1, 1) := by decide +kernel
theorem dX4_setSlot_25 : decode cX4_setSlot 25 = .ok (.bipush 12, 2) := by decide +kernel
theorem dX4_setSlot_27 : decode cX4_setSlot 27 = .ok (.imul, 1) := by decide +kernel
theorem dX4_setSlot_28 : decode cX4_setSlot 28 = .ok (.iload_n 2, 1) := by decide +kernel
theorem dX4_setSlot_29 : decode cX4_setSlot 29 = .ok (.iadd, 1) := by decide +kernel
theorem dX4_setSlot_30 : decode cX4_setSlot 30 = .ok (.iload_n 3, 1) := by decide +kernel
theorem dX4_setSlot_31 : decode cX4_setSlot 31 = .ok (.iastore, 1) := by decide +kernel
theorem dX4_setSlot_32 : decode cX4_setSlot 32 = .ok (.return_, 1) := by decide +kernel
set_option maxRecDepth 20000 in
theorem ggX4_copySlots_X4_blockIn : GoodIn wsX4_copySlots wsX4_blockIn := goodIn_r _ [5, 6, 11, 12, 13, 14, 15, 16, 17, 18, 19, 20, 21] (by decide +kernel) (by decide +kernel)
set_option maxRecDepth 20000 in
theorem gX4_copySlots_X4_blockIn : GoodIn wsX4_copySlots (wsV RX4 56 RX4 yX4_blockIn wsX4_blockIn) := goodIn_app (goodIn_of _ (by decide +kernel)) ggX4_copySlots_X4_blockIn
set_option maxRecDepth 20000 in
theorem ggX4_copySlots_X4_setSlot : GoodIn wsX4_copySlots wsX4_setSlot := goodIn_r _ [10, 6, 11, 12, 13, 14, 15, 16, 17, 18, 19, 20, 21] (by decide +kernel) (by decide +kernel)
set_option maxRecDepth 20000 in
theorem gX4_copySlots_X4_setSlot : GoodIn wsX4_copySlots (wsV RX4 88 RX4 yX4_setSlot wsX4_setSlot) := goodIn_app (goodIn_of _ (by decide +kernel)) ggX4_copySlots_X4_setSlot
theorem dX4_copySlots_0 : decode cX4_copySlots 0 = .ok (.iconst 0, 1) := by decide +kernel
theorem dX4_copySlots_1 : decode cX4_copySlots 1 = .ok (.istore_n 3, 1) := by decide +kernel
theorem dX4_copySlots_2 : decode cX4_copySlots 2 = .ok (.iload_n 3, 1) := by decide +kernel
theorem dX4_copySlots_3 : decode cX4_copySlots 3 = .ok (.bipush 12, 2) := by decide +kernel
theorem dX4_copySlots_5 : decode cX4_copySlots 5 = .ok (.if_icmp .ge 21, 3) := by decide +kernel
theorem dX4_copySlots_8 : decode cX4_copySlots 8 = .ok (.aload_n 0, 1) := by decide +kernel
theorem dX4_copySlots_9 : decode cX4_copySlots 9 = .ok (.iload_n 2, 1) := by decide +kernel
theorem dX4_copySlots_10 : decode cX4_copySlots 10 = .ok (.iload_n 3, 1) := by decide +kernel
theorem dX4_copySlots_11 : decode cX4_copySlots 11 = .ok (.aload_n 0, 1) := by decide +kernel
theorem dX4_copySlots_12 : decode cX4_copySlots 12 = .ok (.iload_n 1, 1) := by decide +kernel
theorem dX4_copySlots_13 : decode cX4_copySlots 13 = .ok (.iload_n 3, 1) := by decide +kernel
theorem dX4_copySlots_14 : decode cX4_copySlots 14 = .ok (.invokevirtual 56, 3) := by decide +kernel
theorem dX4_copySlots_17 : decode cX4_copySlots 17 = .ok (.invokevirtual 88, 3) := by decide +kernel
theorem dX4_copySlots_20 : decode cX4_copySlots 20 = .ok (.iinc 3 1, 3) := by decide +kernel
theorem dX4_copySlots_23 : decode cX4_copySlots 23 = .ok (.goto (-21), 3) := by decide +kernel
theorem dX4_copySlots_26 : decode cX4_copySlots 26 = .ok (.return_, 1) := by decide +kernel
theorem dX4_setPrev_0 : decode cX4_setPrev 0 = .ok (.iload_n 1, 1) := by decide +kernel
theorem dX4_setPrev_1 : decode cX4_setPrev 1 = .ok (.ifCond .lt 16, 3) := by decide +kernel
theorem dX4_setPrev_4 : decode cX4_setPrev 4 = .ok (.iload_n 1, 1) := by decide +kernel
theorem dX4_setPrev_5 : decode cX4_setPrev 5 = .ok (.bipush 20, 2) := by decide +kernel
theorem dX4_setPrev_7 : decode cX4_setPrev 7 = .ok (.if_icmp .ge 10, 3) := by decide +kernel
theorem dX4_setPrev_10 : decode cX4_setPrev 10 = .ok (.aload_n 0, 1) := by decide +kernel
theorem dX4_setPrev_11 : decode cX4_setPrev 11 = .ok (.getfield 18, 3) := by decide +kernel
theorem dX4_setPrev_14 : decode cX4_setPrev 14 = .ok (.iload_n 1, 1) := by decide +kernel
theorem dX4_setPrev_15 : decode cX4_setPrev 15 = .ok (.iload_n 2, 1) := by decide +kernel
theorem dX4_setPrev_16 : decode cX4_setPrev 16 = .ok (.iastore, 1) := by decide +kernel
theorem dX4_setPrev_17 : decode cX4_setPrev 17 = .ok (.return_, 1) := by decide +kernel
theorem dX4_setOwner_0 : decode cX4_setOwner 0 = .ok (.iload_n 1, 1) := by decide +kernel
theorem dX4_setOwner_1 : decode cX4_setOwner 1 = .ok (.ifCond .lt 16, 3) := by decide +kernel
theorem dX4_setOwner_4 : decode cX4_setOwner 4 = .ok (.iload_n 1, 1) := by decide +kernel
theorem dX4_setOwner_5 : decode cX4_setOwner 5 = .ok (.bipush 20, 2) := by decide +kernel
theorem dX4_setOwner_7 : decode cX4_setOwner 7 = .ok (.if_icmp .ge 10, 3) := by decide +kernel
theorem dX4_setOwner_10 : decode cX4_setOwner 10 = .ok (.aload_n 0, 1) := by decide +kernel
theorem dX4_setOwner_11 : decode cX4_setOwner 11 = .ok (.getfield 21, 3) := by decide +kernel
theorem dX4_setOwner_14 : decode cX4_setOwner 14 = .ok (.iload_n 1, 1) := by decide +kernel
theorem dX4_setOwner_15 : decode cX4_setOwner 15 = .ok (.iload_n 2, 1) := by decide +kernel
theorem dX4_setOwner_16 : decode cX4_setOwner 16 = .ok (.iastore, 1) := by decide +kernel
theorem dX4_setOwner_17 : decode cX4_setOwner 17 = .ok (.return_, 1) := by decide +kernel
theorem dX4_setTags_0 : decode cX4_setTags 0 = .ok (.iload_n 1, 1) := by decide +kernel
theorem dX4_setTags_1 : decode cX4_setTags 1 = .ok (.ifCond .lt 16, 3) := by decide +kernel
theorem dX4_setTags_4 : decode cX4_setTags 4 = .ok (.iload_n 1, 1) := by decide +kernel
theorem dX4_setTags_5 : decode cX4_setTags 5 = .ok (.bipush 20, 2) := by decide +kernel
theorem dX4_setTags_7 : decode cX4_setTags 7 = .ok (.if_icmp .ge 10, 3) := by decide +kernel
theorem dX4_setTags_10 : decode cX4_setTags 10 = .ok (.aload_n 0, 1) := by decide +kernel
theorem dX4_setTags_11 : decode cX4_setTags 11 = .ok (.getfield 24, 3) := by decide +kernel
theorem dX4_setTags_14 : decode cX4_setTags 14 = .ok (.iload_n 1, 1) := by decide +kernel
theorem dX4_setTags_15 : decode cX4_setTags 15 = .ok (.iload_n 2, 1) := by decide +kernel
theorem dX4_setTags_16 : decode cX4_setTags 16 = .ok (.iastore, 1) := by decide +kernel
theorem dX4_setTags_17 : decode cX4_setTags 17 = .ok (.return_, 1) := by decide +kernel
theorem dX4_setQuota_0 : decode cX4_setQuota 0 = .ok (.iload_n 1, 1) := by decide +kernel
theorem dX4_setQuota_1 : decode cX4_setQuota 1 = .ok (.ifCond .lt 16, 3) := by decide +kernel
theorem dX4_setQuota_4 : decode cX4_setQuota 4 = .ok (.iload_n 1, 1) := by decide +kernel
theorem dX4_setQuota_5 : decode cX4_setQuota 5 = .ok (.bipush 20, 2) := by decide +kernel
theorem dX4_setQuota_7 : decode cX4_setQuota 7 = .ok (.if_icmp .ge 10, 3) := by decide +kernel
theorem dX4_setQuota_10 : decode cX4_setQuota 10 = .ok (.aload_n 0, 1) := by decide +kernel
theorem dX4_setQuota_11 : decode cX4_setQuota 11 = .ok (.getfield 27, 3) := by decide +kernel
theorem dX4_setQuota_14 : decode cX4_setQuota 14 = .ok (.iload_n 1, 1) := by decide +kernel
theorem dX4_setQuota_15 : decode cX4_setQuota 15 = .ok (.iload_n 2, 1) := by decide +kernel
theorem dX4_setQuota_16 : decode cX4_setQuota 16 = .ok (.iastore, 1) := by decide +kernel
theorem dX4_setQuota_17 : decode cX4_setQuota 17 = .ok (.return_, 1) := by decide +kernel
theorem dX4_setTime_0 : decode cX4_setTime 0 = .ok (.aload_n 0, 1) := by decide +kernel
theorem dX4_setTime_1 : decode cX4_setTime 1 = .ok (.iload_n 1, 1) := by decide +kernel
theorem dX4_setTime_2 : decode cX4_setTime 2 = .ok (.putfield 39, 3) := by decide +kernel
theorem dX4_setTime_5 : decode cX4_setTime 5 = .ok (.return_, 1) := by decide +kernel
