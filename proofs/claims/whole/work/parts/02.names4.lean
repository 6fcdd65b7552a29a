theorem dX8_looksForOwned_54 : decode cX8_looksForOwned 54 = .ok (.iconst 1, 1) := by decide +kernel
theorem dX8_looksForOwned_55 : decode cX8_looksForOwned 55 = .ok (.isub, 1) := by decide +kernel
theorem dX8_looksForOwned_56 : decode cX8_looksForOwned 56 = .ok (.iaload, 1) := by decide +kernel
theorem dX8_looksForOwned_57 : decode cX8_looksForOwned 57 = .ok (.iadd, 1) := by decide +kernel
theorem dX8_looksForOwned_58 : decode cX8_looksForOwned 58 = .ok (.iaload, 1) := by decide +kernel
theorem dX8_looksForOwned_59 : decode cX8_looksForOwned 59 = .ok (.aload_n 0, 1) := by decide +kernel
theorem dX8_looksForOwned_60 : decode cX8_looksForOwned 60 = .ok (.getfield 7, 3) := by decide +kernel
theorem dX8_looksForOwned_63 : decode cX8_looksForOwned 63 = .ok (.bipush 22, 2) := by decide +kernel
theorem dX8_looksForOwned_65 : decode cX8_looksForOwned 65 = .ok (.iload_n 2, 1) := by decide +kernel
theorem dX8_looksForOwned_66 : decode cX8_looksForOwned 66 = .ok (.iadd, 1) := by decide +kernel
theorem dX8_looksForOwned_67 : decode cX8_looksForOwned 67 = .ok (.iaload, 1) := by decide +kernel
theorem dX8_looksForOwned_68 : decode cX8_looksForOwned 68 = .ok (.if_icmp .ge 23, 3) := by decide +kernel
theorem dX8_looksForOwned_71 : decode cX8_looksForOwned 71 = .ok (.aload_n 0, 1) := by decide +kernel
theorem dX8_looksForOwned_72 : decode cX8_looksForOwned 72 = .ok (.getfield 22, 3) := by decide +kernel
theorem dX8_looksForOwned_75 : decode cX8_looksForOwned 75 = .ok (.iload_n 3, 1) := by decide +kernel
theorem dX8_looksForOwned_76 : decode cX8_looksForOwned 76 = .ok (.aload_n 0, 1) := by decide +kernel
theorem dX8_looksForOwned_77 : decode cX8_looksForOwned 77 = .ok (.getfield 22, 3) := by decide +kernel
theorem dX8_looksForOwned_80 : decode cX8_looksForOwned 80 = .ok (.iload_n 3, 1) := by decide +kernel
theorem dX8_looksForOwned_81 : decode cX8_looksForOwned 81 = .ok (.iconst 1, 1) := by decide +kernel
theorem dX8_looksForOwned_82 : decode cX8_looksForOwned 82 = .ok (.isub, 1) := by decide +kernel
theorem dX8_looksForOwned_83 : decode cX8_looksForOwned 83 = .ok (.iaload, 1) := by decide +kernel
theorem dX8_looksForOwned_84 : decode cX8_looksForOwned 84 = .ok (.iastore, 1) := by decide +kernel
theorem dX8_looksForOwned_85 : decode cX8_looksForOwned 85 = .ok (.iinc 3 (-1), 3) := by decide +kernel
theorem dX8_looksForOwned_88 : decode cX8_looksForOwned 88 = .ok (.goto (-49), 3) := by decide +kernel
theorem dX8_looksForOwned_91 : decode cX8_looksForOwned 91 = .ok (.aload_n 0, 1) := by decide +kernel
theorem dX8_looksForOwned_92 : decode cX8_looksForOwned 92 = .ok (.getfield 22, 3) := by decide +kernel
theorem dX8_looksForOwned_95 : decode cX8_looksForOwned 95 = .ok (.iload_n 3, 1) := by decide +kernel
theorem dX8_looksForOwned_96 : decode cX8_looksForOwned 96 = .ok (.iload_n 2, 1) := by decide +kernel
theorem dX8_looksForOwned_97 : decode cX8_looksForOwned 97 = .ok (.iastore, 1) := by decide +kernel
theorem dX8_looksForOwned_98 : decode cX8_looksForOwned 98 = .ok (.aload_n 0, 1) := by decide +kernel
theorem dX8_looksForOwned_99 : decode cX8_looksForOwned 99 = .ok (.dup, 1) := by decide +kernel
theorem dX8_looksForOwned_100 : decode cX8_looksForOwned 100 = .ok (.getfield 139, 3) := by decide +kernel
theorem dX8_looksForOwned_103 : decode cX8_looksForOwned 103 = .ok (.iconst 1, 1) := by decide +kernel
theorem dX8_looksForOwned_104 : decode cX8_looksForOwned 104 = .ok (.iadd, 1) := by decide +kernel
theorem dX8_looksForOwned_105 : decode cX8_looksForOwned 105 = .ok (.putfield 139, 3) := by decide +kernel
theorem dX8_looksForOwned_108 : decode cX8_looksForOwned 108 = .ok (.iinc 2 1, 3) := by decide +kernel
theorem dX8_looksForOwned_111 : decode cX8_looksForOwned 111 = .ok (.goto (-104), 3) := by decide +kernel
theorem dX8_looksForOwned_114 : decode cX8_looksForOwned 114 = .ok (.return_, 1) := by decide +kernel
theorem dX8_countOf_0 : decode cX8_countOf 0 = .ok (.iconst 0, 1) := by decide +kernel
theorem dX8_countOf_1 : decode cX8_countOf 1 = .ok (.istore_n 2, 1) := by decide +kernel
theorem dX8_countOf_2 : decode cX8_countOf 2 = .ok (.iconst 0, 1) := by decide +kernel
theorem dX8_countOf_3 : decode cX8_countOf 3 = .ok (.istore_n 3, 1) := by decide +kernel
theorem dX8_countOf_4 : decode cX8_countOf 4 = .ok (.iload_n 3, 1) := by decide +kernel
theorem dX8_countOf_5 : decode cX8_countOf 5 = .ok (.bipush 8, 2) := by decide +kernel
theorem dX8_countOf_7 : decode cX8_countOf 7 = .ok (.if_icmp .ge 17, 3) := by decide +kernel
theorem dX8_countOf_10 : decode cX8_countOf 10 = .ok (.iload_n 2, 1) := by decide +kernel
theorem dX8_countOf_11 : decode cX8_countOf 11 = .ok (.iload_n 1, 1) := by decide +kernel
theorem dX8_countOf_12 : decode cX8_countOf 12 = .ok (.iload_n 3, 1) := by decide +kernel
theorem dX8_countOf_13 : decode cX8_countOf 13 = .ok (.ishr, 1) := by decide +kernel
theorem dX8_countOf_14 : decode cX8_countOf 14 = .ok (.iconst 1, 1) := by decide +kernel
theorem dX8_countOf_15 : decode cX8_countOf 15 = .ok (.iand, 1) := by decide +kernel
theorem dX8_countOf_16 : decode cX8_countOf 16 = .ok (.iadd, 1) := by decide +kernel
theorem dX8_countOf_17 : decode cX8_countOf 17 = .ok (.istore_n 2, 1) := by decide +kernel
theorem dX8_countOf_18 : decode cX8_countOf 18 = .ok (.iinc 3 1, 3) := by decide +kernel
theorem dX8_countOf_21 : decode cX8_countOf 21 = .ok (.goto (-17), 3) := by decide +kernel
theorem dX8_countOf_24 : decode cX8_countOf 24 = .ok (.iload_n 2, 1) := by decide +kernel
theorem dX8_countOf_25 : decode cX8_countOf 25 = .ok (.ireturn, 1) := by decide +kernel
set_option maxRecDepth 20000 in
theorem ggX8_looksForHolders_X8_counts : GoodIn wsX8_looksForHolders wsX8_counts := goodIn_r _ [10, 5, 4, 11, 12, 13, 9, 14, 15, 16, 17, 18, 19, 20, 21, 22, 23, 24, 25, 26, 27, 28, 29, 30, 31, 32, 45, 46, 47, 48, 49, 50, 51, 52, 53, 54, 55, 56, 57] (by decide +kernel) (by decide +kernel)
set_option maxRecDepth 20000 in
theorem gX8_looksForHolders_X8_counts : GoodIn wsX8_looksForHolders (wsV RX8 67 RX8 yX8_counts wsX8_counts) := goodIn_app (goodIn_of _ (by decide +kernel)) ggX8_looksForHolders_X8_counts
set_option maxRecDepth 20000 in
theorem ggX8_looksForHolders_X8_isLoose : GoodIn wsX8_looksForHolders wsX8_isLoose := goodIn_r _ [36, 4, 37, 38, 39, 9, 40, 11, 12, 13, 14, 15, 16, 17, 18, 19, 20, 21, 22, 23, 24, 25, 26, 27, 28, 29, 30, 31, 32, 45, 46, 47, 48, 49, 50, 51, 52, 53, 54, 55, 56, 57] (by decide +kernel) (by decide +kernel)
set_option maxRecDepth 20000 in
theorem gX8_looksForHolders_X8_isLoose : GoodIn wsX8_looksForHolders (wsV RX8 142 RX8 yX8_isLoose wsX8_isLoose) := goodIn_app (goodIn_of _ (by decide +kernel)) ggX8_looksForHolders_X8_isLoose
set_option maxRecDepth 20000 in
theorem ggX8_looksForHolders_X8_countOf : GoodIn wsX8_looksForHolders wsX8_countOf := goodIn_r _ [44] (by decide +kernel) (by decide +kernel)
set_option maxRecDepth 20000 in
theorem gX8_looksForHolders_X8_countOf : GoodIn wsX8_looksForHolders (wsV RX8 145 RX8 yX8_countOf wsX8_countOf) := goodIn_app (goodIn_of _ (by decide +kernel)) ggX8_looksForHolders_X8_countOf
theorem dX8_looksForHolders_0 : decode cX8_looksForHolders 0 = .ok (.aload_n 0, 1) := by decide +kernel
theorem dX8_looksForHolders_1 : decode cX8_looksForHolders 1 = .ok (.getfield 139, 3) := by decide +kernel
theorem dX8_looksForHolders_4 : decode cX8_looksForHolders 4 = .ok (.bipush 8, 2) := by decide +kernel
theorem dX8_looksForHolders_6 : decode cX8_looksForHolders 6 = .ok (.if_icmp .ge 10, 3) := by decide +kernel
theorem dX8_looksForHolders_9 : decode cX8_looksForHolders 9 = .ok (.aload_n 0, 1) := by decide +kernel
theorem dX8_looksForHolders_10 : decode cX8_looksForHolders 10 = .ok (.getfield 139, 3) := by decide +kernel
theorem dX8_looksForHolders_13 : decode cX8_looksForHolders 13 = .ok (.goto 5, 3) := by decide +kernel
theorem dX8_looksForHolders_16 : decode cX8_looksForHolders 16 = .ok (.bipush 8, 2) := by decide +kernel
theorem dX8_looksForHolders_18 : decode cX8_looksForHolders 18 = .ok (.istore_n 1, 1) := by decide +kernel
theorem dX8_looksForHolders_19 : decode cX8_looksForHolders 19 = .ok (.iconst 0, 1) := by decide +kernel
theorem dX8_looksForHolders_20 : decode cX8_looksForHolders 20 = .ok (.istore_n 2, 1) := by decide +kernel
theorem dX8_looksForHolders_21 : decode cX8_looksForHolders 21 = .ok (.aload_n 0, 1) := by decide +kernel
theorem dX8_looksForHolders_22 : decode cX8_looksForHolders 22 = .ok (.invokevirtual 67, 3) := by decide +kernel
theorem dX8_looksForHolders_25 : decode cX8_looksForHolders 25 = .ok (.iconst 0, 1) := by decide +kernel
theorem dX8_looksForHolders_26 : decode cX8_looksForHolders 26 = .ok (.istore_n 3, 1) := by decide +kernel
theorem dX8_looksForHolders_27 : decode cX8_looksForHolders 27 = .ok (.iload_n 3, 1) := by decide +kernel
theorem dX8_looksForHolders_28 : decode cX8_looksForHolders 28 = .ok (.bipush 96, 2) := by decide +kernel
theorem dX8_looksForHolders_30 : decode cX8_looksForHolders 30 = .ok (.if_icmp .ge 16, 3) := by decide +kernel
theorem dX8_looksForHolders_33 : decode cX8_looksForHolders 33 = .ok (.aload_n 0, 1) := by decide +kernel
theorem dX8_looksForHolders_34 : decode cX8_looksForHolders 34 = .ok (.getfield 25, 3) := by decide +kernel
theorem dX8_looksForHolders_37 : decode cX8_looksForHolders 37 = .ok (.iload_n 3, 1) := by decide +kernel
theorem dX8_looksForHolders_38 : decode cX8_looksForHolders 38 = .ok (.iconst 0, 1) := by decide +kernel
theorem dX8_looksForHolders_39 : decode cX8_looksForHolders 39 = .ok (.iastore, 1) := by decide +kernel
theorem dX8_looksForHolders_40 : decode cX8_looksForHolders 40 = .ok (.iinc 3 1, 3) := by decide +kernel
theorem dX8_looksForHolders_43 : decode cX8_looksForHolders 43 = .ok (.goto (-16), 3) := by decide +kernel
theorem dX8_looksForHolders_46 : decode cX8_looksForHolders 46 = .ok (.iconst 0, 1) := by decide +kernel
theorem dX8_looksForHolders_47 : decode cX8_looksForHolders 47 = .ok (.istore_n 3, 1) := by decide +kernel
theorem dX8_looksForHolders_48 : decode cX8_looksForHolders 48 = .ok (.iload_n 3, 1) := by decide +kernel
theorem dX8_looksForHolders_49 : decode cX8_looksForHolders 49 = .ok (.iload_n 1, 1) := by decide +kernel
theorem dX8_looksForHolders_50 : decode cX8_looksForHolders 50 = .ok (.if_icmp .ge 99, 3) := by decide +kernel
theorem dX8_looksForHolders_53 : decode cX8_looksForHolders 53 = .ok (.aload_n 0, 1) := by decide +kernel
theorem dX8_looksForHolders_54 : decode cX8_looksForHolders 54 = .ok (.getfield 22, 3) := by decide +kernel
theorem dX8_looksForHolders_57 : decode cX8_looksForHolders 57 = .ok (.iload_n 3, 1) := by decide +kernel
theorem dX8_looksForHolders_58 : decode cX8_looksForHolders 58 = .ok (.iaload, 1) := by decide +kernel
theorem dX8_looksForHolders_59 : decode cX8_looksForHolders 59 = .ok (.istore 4, 2) := by decide +kernel
theorem dX8_looksForHolders_61 : decode cX8_looksForHolders 61 = .ok (.iload_n 2, 1) := by decide +kernel
theorem dX8_looksForHolders_62 : decode cX8_looksForHolders 62 = .ok (.aload_n 0, 1) := by decide +kernel
theorem dX8_looksForHolders_63 : decode cX8_looksForHolders 63 = .ok (.iload 4, 2) := by decide +kernel
theorem dX8_looksForHolders_65 : decode cX8_looksForHolders 65 = .ok (.invokevirtual 142, 3) := by decide +kernel
theorem dX8_looksForHolders_68 : decode cX8_looksForHolders 68 = .ok (.ifCond .eq 9, 3) := by decide +kernel
theorem dX8_looksForHolders_71 : decode cX8_looksForHolders 71 = .ok (.iconst 1, 1) := by decide +kernel
theorem dX8_looksForHolders_72 : decode cX8_looksForHolders 72 = .ok (.iload_n 3, 1) := by decide +kernel
theorem dX8_looksForHolders_73 : decode cX8_looksForHolders 73 = .ok (.ishl, 1) := by decide +kernel
theorem dX8_looksForHolders_74 : decode cX8_looksForHolders 74 = .ok (.goto 4, 3) := by decide +kernel
theorem dX8_looksForHolders_77 : decode cX8_looksForHolders 77 = .ok (.iconst 0, 1) := by decide +kernel
theorem dX8_looksForHolders_78 : decode cX8_looksForHolders 78 = .ok (.ior, 1) := by decide +kernel
theorem dX8_looksForHolders_79 : decode cX8_looksForHolders 79 = .ok (.istore_n 2, 1) := by decide +kernel
theorem dX8_looksForHolders_80 : decode cX8_looksForHolders 80 = .ok (.iconst 0, 1) := by decide +kernel
theorem dX8_looksForHolders_81 : decode cX8_looksForHolders 81 = .ok (.istore 5, 2) := by decide +kernel
theorem dX8_looksForHolders_83 : decode cX8_looksForHolders 83 = .ok (.iload 5, 2) := by decide +kernel
theorem dX8_looksForHolders_85 : decode cX8_looksForHolders 85 = .ok (.bipush 12, 2) := by decide +kernel
theorem dX8_looksForHolders_87 : decode cX8_looksForHolders 87 = .ok (.if_icmp .ge 56, 3) := by decide +kernel
theorem dX8_looksForHolders_90 : decode cX8_looksForHolders 90 = .ok (.aload_n 0, 1) := by decide +kernel
theorem dX8_looksForHolders_91 : decode cX8_looksForHolders 91 = .ok (.getfield 7, 3) := by decide +kernel
theorem dX8_looksForHolders_94 : decode cX8_looksForHolders 94 = .ok (.bipush 122, 2) := by decide +kernel
theorem dX8_looksForHolders_96 : decode cX8_looksForHolders 96 = .ok (.bipush 12, 2) := by decide +kernel
theorem dX8_looksForHolders_98 : decode cX8_looksForHolders 98 = .ok (.iload 4, 2) := by decide +kernel
theorem dX8_looksForHolders_100 : decode cX8_looksForHolders 100 = .ok (.imul, 1) := by decide +kernel
theorem dX8_looksForHolders_101 : decode cX8_looksForHolders 101 = .ok (.iadd, 1) := by decide +kernel
theorem dX8_looksForHolders_102 : decode cX8_looksForHolders 102 = .ok (.iload 5, 2) := by decide +kernel
theorem dX8_looksForHolders_104 : decode cX8_looksForHolders 104 = .ok (.iadd, 1) := by decide +kernel
theorem dX8_looksForHolders_105 : decode cX8_looksForHolders 105 = .ok (.iaload, 1) := by decide +kernel
theorem dX8_looksForHolders_106 : decode cX8_looksForHolders 106 = .ok (.iconst (-1), 1) := by decide +kernel
theorem dX8_looksForHolders_107 : decode cX8_looksForHolders 107 = .ok (.if_icmp .eq 30, 3) := by decide +kernel
theorem dX8_looksForHolders_110 : decode cX8_looksForHolders 110 = .ok (.aload_n 0, 1) := by decide +kernel
theorem dX8_looksForHolders_111 : decode cX8_looksForHolders 111 = .ok (.getfield 25, 3) := by decide +kernel
theorem dX8_looksForHolders_114 : decode cX8_looksForHolders 114 = .ok (.aload_n 0, 1) := by decide +kernel
theorem dX8_looksForHolders_115 : decode cX8_looksForHolders 115 = .ok (.getfield 7, 3) := by decide +kernel
theorem dX8_looksForHolders_118 : decode cX8_looksForHolders 118 = .ok (.bipush 122, 2) := by decide +kernel
theorem dX8_looksForHolders_120 : decode cX8_looksForHolders 120 = .ok (.bipush 12, 2) := by decide +kernel
theorem dX8_looksForHolders_122 : decode cX8_looksForHolders 122 = .ok (.iload 4, 2) := by decide +kernel
theorem dX8_looksForHolders_124 : decode cX8_looksForHolders 124 = .ok (.imul, 1) := by decide +kernel
theorem dX8_looksForHolders_125 : decode cX8_looksForHolders 125 = .ok (.iadd, 1) := by decide +kernel
theorem dX8_looksForHolders_126 : decode cX8_looksForHolders 126 = .ok (.iload 5, 2) := by decide +kernel
theorem dX8_looksForHolders_128 : decode cX8_looksForHolders 128 = .ok (.iadd, 1) := by decide +kernel
theorem dX8_looksForHolders_129 : decode cX8_looksForHolders 129 = .ok (.iaload, 1) := by decide +kernel
theorem dX8_looksForHolders_130 : decode cX8_looksForHolders 130 = .ok (.dup2, 1) := by decide +kernel
theorem dX8_looksForHolders_131 : decode cX8_looksForHolders 131 = .ok (.iaload, 1) := by decide +kernel
theorem dX8_looksForHolders_132 : decode cX8_looksForHolders 132 = .ok (.iconst 1, 1) := by decide +kernel
theorem dX8_looksForHolders_133 : decode cX8_looksForHolders 133 = .ok (.iload_n 3, 1) := by decide +kernel
theorem dX8_looksForHolders_134 : decode cX8_looksForHolders 134 = .ok (.ishl, 1) := by decide +kernel
theorem dX8_looksForHolders_135 : decode cX8_looksForHolders 135 = .ok (.ior, 1) := by decide +kernel
theorem dX8_looksForHolders_136 : decode cX8_looksForHolders 136 = .ok (.iastore, 1) := by decide +kernel
theorem dX8_looksForHolders_137 : decode cX8_looksForHolders 137 = .ok (.iinc 5 1, 3) := by decide +kernel
theorem dX8_looksForHolders_140 : decode cX8_looksForHolders 140 = .ok (.goto (-57), 3) := by decide +kernel
theorem dX8_looksForHolders_143 : decode cX8_looksForHolders 143 = .ok (.iinc 3 1, 3) := by decide +kernel
theorem dX8_looksForHolders_146 : decode cX8_looksForHolders 146 = .ok (.goto (-98), 3) := by decide +kernel
theorem dX8_looksForHolders_149 : decode cX8_looksForHolders 149 = .ok (.iconst 0, 1) := by decide +kernel
theorem dX8_looksForHolders_150 : decode cX8_looksForHolders 150 = .ok (.istore_n 3, 1) := by decide +kernel
theorem dX8_looksForHolders_151 : decode cX8_looksForHolders 151 = .ok (.iload_n 3, 1) := by decide +kernel
theorem dX8_looksForHolders_152 : decode cX8_looksForHolders 152 = .ok (.bipush 96, 2) := by decide +kernel
theorem dX8_looksForHolders_154 : decode cX8_looksForHolders 154 = .ok (.if_icmp .ge 44, 3) := by decide +kernel
theorem dX8_looksForHolders_157 : decode cX8_looksForHolders 157 = .ok (.aload_n 0, 1) := by decide +kernel
theorem dX8_looksForHolders_158 : decode cX8_looksForHolders 158 = .ok (.getfield 25, 3) := by decide +kernel
theorem dX8_looksForHolders_161 : decode cX8_looksForHolders 161 = .ok (.iload_n 3, 1) := by decide +kernel
theorem dX8_looksForHolders_162 : decode cX8_looksForHolders 162 = .ok (.aload_n 0, 1) := by decide +kernel
theorem dX8_looksForHolders_163 : decode cX8_looksForHolders 163 = .ok (.aload_n 0, 1) := by decide +kernel
theorem dX8_looksForHolders_164 : decode cX8_looksForHolders 164 = .ok (.getfield 25, 3) := by decide +kernel
theorem dX8_looksForHolders_167 : decode cX8_looksForHolders 167 = .ok (.iload_n 3, 1) := by decide +kernel
theorem dX8_looksForHolders_168 : decode cX8_looksForHolders 168 = .ok (.iaload, 1) := by decide +kernel
theorem dX8_looksForHolders_169 : decode cX8_looksForHolders 169 = .ok (.invokevirtual 145, 3) := by decide +kernel
theorem dX8_looksForHolders_172 : decode cX8_looksForHolders 172 = .ok (.aload_n 0, 1) := by decide +kernel
theorem dX8_looksForHolders_173 : decode cX8_looksForHolders 173 = .ok (.getfield 19, 3) := by decide +kernel
theorem dX8_looksForHolders_176 : decode cX8_looksForHolders 176 = .ok (.iload_n 3, 1) := by decide +kernel
theorem dX8_looksForHolders_177 : decode cX8_looksForHolders 177 = .ok (.iaload, 1) := by decide +kernel
theorem dX8_looksForHolders_178 : decode cX8_looksForHolders 178 = .ok (.if_icmp .ne 12, 3) := by decide +kernel
theorem dX8_looksForHolders_181 : decode cX8_looksForHolders 181 = .ok (.aload_n 0, 1) := by decide +kernel
theorem dX8_looksForHolders_182 : decode cX8_looksForHolders 182 = .ok (.getfield 25, 3) := by decide +kernel
theorem dX8_looksForHolders_185 : decode cX8_looksForHolders 185 = .ok (.iload_n 3, 1) := by decide +kernel
theorem dX8_looksForHolders_186 : decode cX8_looksForHolders 186 = .ok (.iaload, 1) := by decide +kernel
theorem dX8_looksForHolders_187 : decode cX8_looksForHolders 187 = .ok (.goto 4, 3) := by decide +kernel
theorem dX8_looksForHolders_190 : decode cX8_looksForHolders 190 = .ok (.iconst 0, 1) := by decide +kernel
theorem dX8_looksForHolders_191 : decode cX8_looksForHolders 191 = .ok (.iastore, 1) := by decide +kernel
theorem dX8_looksForHolders_192 : decode cX8_looksForHolders 192 = .ok (.iinc 3 1, 3) := by decide +kernel
theorem dX8_looksForHolders_195 : decode cX8_looksForHolders 195 = .ok (.goto (-44), 3) := by decide +kernel
theorem dX8_looksForHolders_198 : decode cX8_looksForHolders 198 = .ok (.iload_n 2, 1) := by decide +kernel
theorem dX8_looksForHolders_199 : decode cX8_looksForHolders 199 = .ok (.ireturn, 1) := by decide +kernel
theorem dX8_freedBy_0 : decode cX8_freedBy 0 = .ok (.lconst 0, 1) := by decide +kernel
theorem dX8_freedBy_1 : decode cX8_freedBy 1 = .ok (.lstore_n 2, 1) := by decide +kernel
theorem dX8_freedBy_2 : decode cX8_freedBy 2 = .ok (.iconst 0, 1) := by decide +kernel
theorem dX8_freedBy_3 : decode cX8_freedBy 3 = .ok (.istore 4, 2) := by decide +kernel
theorem dX8_freedBy_5 : decode cX8_freedBy 5 = .ok (.iload 4, 2) := by decide +kernel
theorem dX8_freedBy_7 : decode cX8_freedBy 7 = .ok (.bipush 96, 2) := by decide +kernel
theorem dX8_freedBy_9 : decode cX8_freedBy 9 = .ok (.if_icmp .ge 52, 3) := by decide +kernel
theorem dX8_freedBy_12 : decode cX8_freedBy 12 = .ok (.lload_n 2, 1) := by decide +kernel
theorem dX8_freedBy_13 : decode cX8_freedBy 13 = .ok (.aload_n 0, 1) := by decide +kernel
theorem dX8_freedBy_14 : decode cX8_freedBy 14 = .ok (.getfield 25, 3) := by decide +kernel
theorem dX8_freedBy_17 : decode cX8_freedBy 17 = .ok (.iload 4, 2) := by decide +kernel
theorem dX8_freedBy_19 : decode cX8_freedBy 19 = .ok (.iaload, 1) := by decide +kernel
theorem dX8_freedBy_20 : decode cX8_freedBy 20 = .ok (.ifCond .eq 32, 3) := by decide +kernel
theorem dX8_freedBy_23 : decode cX8_freedBy 23 = .ok (.aload_n 0, 1) := by decide +kernel
theorem dX8_freedBy_24 : decode cX8_freedBy 24 = .ok (.getfield 25, 3) := by decide +kernel
theorem dX8_freedBy_27 : decode cX8_freedBy 27 = .ok (.iload 4, 2) := by decide +kernel
theorem dX8_freedBy_29 : decode cX8_freedBy 29 = .ok (.iaload, 1) := by decide +kernel
theorem dX8_freedBy_30 : decode cX8_freedBy 30 = .ok (.iload_n 1, 1) := by decide +kernel
theorem dX8_freedBy_31 : decode cX8_freedBy 31 = .ok (.iconst (-1), 1) := by decide +kernel
theorem dX8_freedBy_32 : decode cX8_freedBy 32 = .ok (.ixor, 1) := by decide +kernel
theorem dX8_freedBy_33 : decode cX8_freedBy 33 = .ok (.iand, 1) := by decide +kernel
theorem dX8_freedBy_34 : decode cX8_freedBy 34 = .ok (.ifCond .ne 18, 3) := by decide +kernel
theorem dX8_freedBy_37 : decode cX8_freedBy 37 = .ok (.aload_n 0, 1) := by decide +kernel
theorem dX8_freedBy_38 : decode cX8_freedBy 38 = .ok (.getfield 7, 3) := by decide +kernel
theorem dX8_freedBy_41 : decode cX8_freedBy 41 = .ok (.sipush 362, 3) := by decide +kernel
theorem dX8_freedBy_44 : decode cX8_freedBy 44 = .ok (.iload 4, 2) := by decide +kernel
theorem dX8_freedBy_46 : decode cX8_freedBy 46 = .ok (.iadd, 1) := by decide +kernel
theorem dX8_freedBy_47 : decode cX8_freedBy 47 = .ok (.iaload, 1) := by decide +kernel
theorem dX8_freedBy_48 : decode cX8_freedBy 48 = .ok (.i2l, 1) := by decide +kernel
theorem dX8_freedBy_49 : decode cX8_freedBy 49 = .ok (.goto 4, 3) := by decide +kernel
theorem dX8_freedBy_52 : decode cX8_freedBy 52 = .ok (.lconst 0, 1) := by decide +kernel
theorem dX8_freedBy_53 : decode cX8_freedBy 53 = .ok (.ladd, 1) := by decide +kernel
theorem dX8_freedBy_54 : decode cX8_freedBy 54 = .ok (.lstore_n 2, 1) := by decide +kernel
theorem dX8_freedBy_55 : decode cX8_freedBy 55 = .ok (.iinc 4 1, 3) := by decide +kernel
theorem dX8_freedBy_58 : decode cX8_freedBy 58 = .ok (.goto (-53), 3) := by decide +kernel
theorem dX8_freedBy_61 : decode cX8_freedBy 61 = .ok (.lload_n 2, 1) := by decide +kernel
theorem dX8_freedBy_62 : decode cX8_freedBy 62 = .ok (.lreturn, 1) := by decide +kernel
set_option maxRecDepth 20000 in
theorem ggX8_most_X8_in : GoodIn wsX8_most wsX8_in := goodIn_r _ [5] (by decide +kernel) (by decide +kernel)
set_option maxRecDepth 20000 in
theorem gX8_most_X8_in : GoodIn wsX8_most (va_wsS RX8 42 yX8_in wsX8_in) := goodIn_app (goodIn_of _ (by decide +kernel)) ggX8_most_X8_in
set_option maxRecDepth 20000 in
theorem ggX8_most_X8_isFiles : GoodIn wsX8_most wsX8_isFiles := goodIn_r _ [9, 10, 11, 12, 13, 4, 14, 2, 3, 5, 15, 16, 17, 58, 59, 60, 61, 62, 63, 64, 65, 66, 67, 68, 69, 70] (by decide +kernel) (by decide +kernel)
set_option maxRecDepth 20000 in
theorem gX8_most_X8_isFiles : GoodIn wsX8_most (wsV RX8 54 RX8 yX8_isFiles wsX8_isFiles) := goodIn_app (goodIn_of _ (by decide +kernel)) ggX8_most_X8_isFiles
set_option maxRecDepth 20000 in
theorem ggX8_most_X8_looksForOwned : GoodIn wsX8_most wsX8_looksForOwned := goodIn_r _ [21, 22, 10, 23, 24, 25, 26, 4, 27, 11, 12, 13, 14, 2, 3, 5, 15, 16, 17, 58, 59, 60, 61, 62, 63, 64, 65, 66, 67, 68, 69, 70] (by decide +kernel) (by decide +kernel)
set_option maxRecDepth 20000 in
theorem gX8_most_X8_looksForOwned : GoodIn wsX8_most (wsV RX8 148 RX8 yX8_looksForOwned wsX8_looksForOwned) := goodIn_app (goodIn_of _ (by decide +kernel)) ggX8_most_X8_looksForOwned
set_option maxRecDepth 20000 in
theorem ggX8_most_X8_looksForHolders : GoodIn wsX8_most wsX8_looksForHolders := goodIn_r _ [31, 22, 32, 23, 10, 33, 34, 35, 36, 4, 37, 38, 39, 40, 41, 6, 7, 8, 9, 11, 12, 13, 14, 2, 3, 5, 15, 16, 17, 24, 25, 26, 27, 42, 43, 44, 45, 46, 47, 48, 49, 50, 51, 52, 53, 58, 59, 60, 61, 62, 63, 64, 65, 66, 67, 68, 69, 70] (by decide +kernel) (by decide +kernel)
set_option maxRecDepth 20000 in
theorem gX8_most_X8_looksForHolders : GoodIn wsX8_most (wsV RX8 152 RX8 yX8_looksForHolders wsX8_looksForHolders) := goodIn_app (goodIn_of _ (by decide +kernel)) ggX8_most_X8_looksForHolders
set_option maxRecDepth 20000 in
theorem ggX8_most_X8_countOf : GoodIn wsX8_most wsX8_countOf := goodIn_r _ [53] (by decide +kernel) (by decide +kernel)
set_option maxRecDepth 20000 in
theorem gX8_most_X8_countOf : GoodIn wsX8_most (wsV RX8 145 RX8 yX8_countOf wsX8_countOf) := goodIn_app (goodIn_of _ (by decide +kernel)) ggX8_most_X8_countOf
set_option maxRecDepth 20000 in
theorem ggX8_most_X8_freedBy : GoodIn wsX8_most wsX8_freedBy := goodIn_r _ [57, 32, 10, 58, 59, 60, 61, 62, 63, 64, 65, 66, 67, 68, 69, 70] (by decide +kernel) (by decide +kernel)
set_option maxRecDepth 20000 in
theorem gX8_most_X8_freedBy : GoodIn wsX8_most (wsV RX8 155 RX8 yX8_freedBy wsX8_freedBy) := goodIn_app (goodIn_of _ (by decide +kernel)) ggX8_most_X8_freedBy
theorem dX8_most_0 : decode cX8_most 0 = .ok (.iload_n 2, 1) := by decide +kernel
theorem dX8_most_1 : decode cX8_most 1 = .ok (.iconst 0, 1) := by decide +kernel
theorem dX8_most_2 : decode cX8_most 2 = .ok (.bipush 8, 2) := by decide +kernel
theorem dX8_most_4 : decode cX8_most 4 = .ok (.invokestatic 42, 3) := by decide +kernel
theorem dX8_most_7 : decode cX8_most 7 = .ok (.ifCond .eq 11, 3) := by decide +kernel
theorem dX8_most_10 : decode cX8_most 10 = .ok (.aload_n 0, 1) := by decide +kernel
theorem dX8_most_11 : decode cX8_most 11 = .ok (.iload_n 1, 1) := by decide +kernel
theorem dX8_most_12 : decode cX8_most 12 = .ok (.invokevirtual 54, 3) := by decide +kernel
theorem dX8_most_15 : decode cX8_most 15 = .ok (.ifCond .ne 7, 3) := by decide +kernel
theorem dX8_most_18 : decode cX8_most 18 = .ok (.ldc2_w 134, 3) := by decide +kernel
theorem dX8_most_21 : decode cX8_most 21 = .ok (.lreturn, 1) := by decide +kernel
theorem dX8_most_22 : decode cX8_most 22 = .ok (.aload_n 0, 1) := by decide +kernel
theorem dX8_most_23 : decode cX8_most 23 = .ok (.iload_n 1, 1) := by decide +kernel
theorem dX8_most_24 : decode cX8_most 24 = .ok (.invokevirtual 148, 3) := by decide +kernel
theorem dX8_most_27 : decode cX8_most 27 = .ok (.aload_n 0, 1) := by decide +kernel
theorem dX8_most_28 : decode cX8_most 28 = .ok (.invokevirtual 152, 3) := by decide +kernel
theorem dX8_most_31 : decode cX8_most 31 = .ok (.istore_n 3, 1) := by decide +kernel
theorem dX8_most_32 : decode cX8_most 32 = .ok (.lconst 0, 1) := by decide +kernel
theorem dX8_most_33 : decode cX8_most 33 = .ok (.lstore 4, 2) := by decide +kernel
theorem dX8_most_35 : decode cX8_most 35 = .ok (.iconst 0, 1) := by decide +kernel
theorem dX8_most_36 : decode cX8_most 36 = .ok (.istore 6, 2) := by decide +kernel
theorem dX8_most_38 : decode cX8_most 38 = .ok (.iload 6, 2) := by decide +kernel
theorem dX8_most_40 : decode cX8_most 40 = .ok (.sipush 256, 3) := by decide +kernel
theorem dX8_most_43 : decode cX8_most 43 = .ok (.if_icmp .ge 53, 3) := by decide +kernel
theorem dX8_most_46 : decode cX8_most 46 = .ok (.iload 6, 2) := by decide +kernel
theorem dX8_most_48 : decode cX8_most 48 = .ok (.iload_n 3, 1) := by decide +kernel
theorem dX8_most_49 : decode cX8_most 49 = .ok (.iconst (-1), 1) := by decide +kernel
theorem dX8_most_50 : decode cX8_most 50 = .ok (.ixor, 1) := by decide +kernel
theorem dX8_most_51 : decode cX8_most 51 = .ok (.iand, 1) := by decide +kernel
theorem dX8_most_52 : decode cX8_most 52 = .ok (.ifCond .ne 38, 3) := by decide +kernel
theorem dX8_most_55 : decode cX8_most 55 = .ok (.aload_n 0, 1) := by decide +kernel
theorem dX8_most_56 : decode cX8_most 56 = .ok (.iload 6, 2) := by decide +kernel
theorem dX8_most_58 : decode cX8_most 58 = .ok (.invokevirtual 145, 3) := by decide +kernel
theorem dX8_most_61 : decode cX8_most 61 = .ok (.iload_n 2, 1) := by decide +kernel
theorem dX8_most_62 : decode cX8_most 62 = .ok (.if_icmp .gt 28, 3) := by decide +kernel
theorem dX8_most_65 : decode cX8_most 65 = .ok (.aload_n 0, 1) := by decide +kernel
theorem dX8_most_66 : decode cX8_most 66 = .ok (.iload 6, 2) := by decide +kernel
theorem dX8_most_68 : decode cX8_most 68 = .ok (.invokevirtual 155, 3) := by decide +kernel
theorem dX8_most_71 : decode cX8_most 71 = .ok (.lstore 7, 2) := by decide +kernel
theorem dX8_most_73 : decode cX8_most 73 = .ok (.lload 7, 2) := by decide +kernel
theorem dX8_most_75 : decode cX8_most 75 = .ok (.lload 4, 2) := by decide +kernel
theorem dX8_most_77 : decode cX8_most 77 = .ok (.lcmp, 1) := by decide +kernel
theorem dX8_most_78 : decode cX8_most 78 = .ok (.ifCond .le 8, 3) := by decide +kernel
theorem dX8_most_81 : decode cX8_most 81 = .ok (.lload 7, 2) := by decide +kernel
theorem dX8_most_83 : decode cX8_most 83 = .ok (.goto 5, 3) := by decide +kernel
theorem dX8_most_86 : decode cX8_most 86 = .ok (.lload 4, 2) := by decide +kernel
theorem dX8_most_88 : decode cX8_most 88 = .ok (.lstore 4, 2) := by decide +kernel
theorem dX8_most_90 : decode cX8_most 90 = .ok (.iinc 6 1, 3) := by decide +kernel
theorem dX8_most_93 : decode cX8_most 93 = .ok (.goto (-55), 3) := by decide +kernel
theorem dX8_most_96 : decode cX8_most 96 = .ok (.lload 4, 2) := by decide +kernel
theorem dX8_most_98 : decode cX8_most 98 = .ok (.lreturn, 1) := by decide +kernel
set_option maxRecDepth 20000 in
theorem ggX8_fewest_X8_asked : GoodIn wsX8_fewest wsX8_asked := goodIn_r _ [5, 6, 7, 8, 9, 4, 10, 11, 12, 13, 14, 15, 16, 17, 18, 19, 20, 65, 66, 67, 68, 69, 70, 71, 72, 73, 74, 75, 76, 77] (by decide +kernel) (by decide +kernel)
set_option maxRecDepth 20000 in
theorem gX8_fewest_X8_asked : GoodIn wsX8_fewest (wsV RX8 92 RX8 yX8_asked wsX8_asked) := goodIn_app (goodIn_of _ (by decide +kernel)) ggX8_fewest_X8_asked
set_option maxRecDepth 20000 in
theorem ggX8_fewest_X8_looksForOwned : GoodIn wsX8_fewest wsX8_looksForOwned := goodIn_r _ [24, 25, 6, 26, 27, 28, 29, 4, 30, 14, 15, 16, 17, 11, 12, 13, 18, 19, 20, 65, 66, 67, 68, 69, 70, 71, 72, 73, 74, 75, 76, 77] (by decide +kernel) (by decide +kernel)
set_option maxRecDepth 20000 in
theorem gX8_fewest_X8_looksForOwned : GoodIn wsX8_fewest (wsV RX8 148 RX8 yX8_looksForOwned wsX8_looksForOwned) := goodIn_app (goodIn_of _ (by decide +kernel)) ggX8_fewest_X8_looksForOwned
set_option maxRecDepth 20000 in
theorem ggX8_fewest_X8_looksForHolders : GoodIn wsX8_fewest wsX8_looksForHolders := goodIn_r _ [34, 25, 35, 26, 6, 36, 37, 38, 39, 4, 40, 41, 42, 43, 44, 45, 46, 47, 48, 14, 15, 16, 17, 11, 12, 13, 18, 19, 20, 27, 28, 29, 30, 49, 50, 51, 52, 53, 54, 55, 56, 57, 58, 59, 60, 65, 66, 67, 68, 69, 70, 71, 72, 73, 74, 75, 76, 77] (by decide +kernel) (by decide +kernel)
set_option maxRecDepth 20000 in
theorem gX8_fewest_X8_looksForHolders : GoodIn wsX8_fewest (wsV RX8 152 RX8 yX8_looksForHolders wsX8_looksForHolders) := goodIn_app (goodIn_of _ (by decide +kernel)) ggX8_fewest_X8_looksForHolders
set_option maxRecDepth 20000 in
theorem ggX8_fewest_X8_countOf : GoodIn wsX8_fewest wsX8_countOf := goodIn_r _ [60] (by decide +kernel) (by decide +kernel)
set_option maxRecDepth 20000 in
theorem gX8_fewest_X8_countOf : GoodIn wsX8_fewest (wsV RX8 145 RX8 yX8_countOf wsX8_countOf) := goodIn_app (goodIn_of _ (by decide +kernel)) ggX8_fewest_X8_countOf
set_option maxRecDepth 20000 in
theorem ggX8_fewest_X8_freedBy : GoodIn wsX8_fewest wsX8_freedBy := goodIn_r _ [64, 35, 6, 65, 66, 67, 68, 69, 70, 71, 72, 73, 74, 75, 76, 77] (by decide +kernel) (by decide +kernel)
set_option maxRecDepth 20000 in
theorem gX8_fewest_X8_freedBy : GoodIn wsX8_fewest (wsV RX8 155 RX8 yX8_freedBy wsX8_freedBy) := goodIn_app (goodIn_of _ (by decide +kernel)) ggX8_fewest_X8_freedBy
theorem dX8_fewest_0 : decode cX8_fewest 0 = .ok (.aload_n 0, 1) := by decide +kernel
theorem dX8_fewest_1 : decode cX8_fewest 1 = .ok (.iload_n 1, 1) := by decide +kernel
theorem dX8_fewest_2 : decode cX8_fewest 2 = .ok (.iconst 0, 1) := by decide +kernel
theorem dX8_fewest_3 : decode cX8_fewest 3 = .ok (.invokevirtual 92, 3) := by decide +kernel
theorem dX8_fewest_6 : decode cX8_fewest 6 = .ok (.istore 4, 2) := by decide +kernel
theorem dX8_fewest_8 : decode cX8_fewest 8 = .ok (.iload 4, 2) := by decide +kernel
theorem dX8_fewest_10 : decode cX8_fewest 10 = .ok (.ifCond .eq 6, 3) := by decide +kernel
theorem dX8_fewest_13 : decode cX8_fewest 13 = .ok (.iload 4, 2) := by decide +kernel
theorem dX8_fewest_15 : decode cX8_fewest 15 = .ok (.ireturn, 1) := by decide +kernel
theorem dX8_fewest_16 : decode cX8_fewest 16 = .ok (.lload_n 2, 1) := by decide +kernel
theorem dX8_fewest_17 : decode cX8_fewest 17 = .ok (.lconst 0, 1) := by decide +kernel
theorem dX8_fewest_18 : decode cX8_fewest 18 = .ok (.lcmp, 1) := by decide +kernel
theorem dX8_fewest_19 : decode cX8_fewest 19 = .ok (.ifCond .gt 5, 3) := by decide +kernel
theorem dX8_fewest_22 : decode cX8_fewest 22 = .ok (.iconst 0, 1) := by decide +kernel
theorem dX8_fewest_23 : decode cX8_fewest 23 = .ok (.ireturn, 1) := by decide +kernel
theorem dX8_fewest_24 : decode cX8_fewest 24 = .ok (.aload_n 0, 1) := by decide +kernel
theorem dX8_fewest_25 : decode cX8_fewest 25 = .ok (.iload_n 1, 1) := by decide +kernel
theorem dX8_fewest_26 : decode cX8_fewest 26 = .ok (.invokevirtual 148, 3) := by decide +kernel
theorem dX8_fewest_29 : decode cX8_fewest 29 = .ok (.aload_n 0, 1) := by decide +kernel
theorem dX8_fewest_30 : decode cX8_fewest 30 = .ok (.invokevirtual 152, 3) := by decide +kernel
theorem dX8_fewest_33 : decode cX8_fewest 33 = .ok (.istore 5, 2) := by decide +kernel
theorem dX8_fewest_35 : decode cX8_fewest 35 = .ok (.iconst (-1), 1) := by decide +kernel
theorem dX8_fewest_36 : decode cX8_fewest 36 = .ok (.istore 6, 2) := by decide +kernel
theorem dX8_fewest_38 : decode cX8_fewest 38 = .ok (.iconst 0, 1) := by decide +kernel
theorem dX8_fewest_39 : decode cX8_fewest 39 = .ok (.istore 7, 2) := by decide +kernel
theorem dX8_fewest_41 : decode cX8_fewest 41 = .ok (.iload 7, 2) := by decide +kernel
theorem dX8_fewest_43 : decode cX8_fewest 43 = .ok (.sipush 256, 3) := by decide +kernel
theorem dX8_fewest_46 : decode cX8_fewest 46 = .ok (.if_icmp .ge 72, 3) := by decide +kernel
theorem dX8_fewest_49 : decode cX8_fewest 49 = .ok (.iload 6, 2) := by decide +kernel
theorem dX8_fewest_51 : decode cX8_fewest 51 = .ok (.iconst (-1), 1) := by decide +kernel
theorem dX8_fewest_52 : decode cX8_fewest 52 = .ok (.if_icmp .eq 14, 3) := by decide +kernel
theorem dX8_fewest_55 : decode cX8_fewest 55 = .ok (.aload_n 0, 1) := by decide +kernel
theorem dX8_fewest_56 : decode cX8_fewest 56 = .ok (.iload 7, 2) := by decide +kernel
theorem dX8_fewest_58 : decode cX8_fewest 58 = .ok (.invokevirtual 145, 3) := by decide +kernel
theorem dX8_fewest_61 : decode cX8_fewest 61 = .ok (.iload 6, 2) := by decide +kernel
theorem dX8_fewest_63 : decode cX8_fewest 63 = .ok (.if_icmp .ge 7, 3) := by decide +kernel
theorem dX8_fewest_66 : decode cX8_fewest 66 = .ok (.iconst 1, 1) := by decide +kernel
theorem dX8_fewest_67 : decode cX8_fewest 67 = .ok (.goto 4, 3) := by decide +kernel
theorem dX8_fewest_70 : decode cX8_fewest 70 = .ok (.iconst 0, 1) := by decide +kernel
theorem dX8_fewest_71 : decode cX8_fewest 71 = .ok (.istore 8, 2) := by decide +kernel
theorem dX8_fewest_73 : decode cX8_fewest 73 = .ok (.iload 7, 2) := by decide +kernel
theorem dX8_fewest_75 : decode cX8_fewest 75 = .ok (.iload 5, 2) := by decide +kernel
theorem dX8_fewest_77 : decode cX8_fewest 77 = .ok (.iconst (-1), 1) := by decide +kernel
theorem dX8_fewest_78 : decode cX8_fewest 78 = .ok (.ixor, 1) := by decide +kernel
theorem dX8_fewest_79 : decode cX8_fewest 79 = .ok (.iand, 1) := by decide +kernel
theorem dX8_fewest_80 : decode cX8_fewest 80 = .ok (.ifCond .ne 28, 3) := by decide +kernel
theorem dX8_fewest_83 : decode cX8_fewest 83 = .ok (.iload 8, 2) := by decide +kernel
theorem dX8_fewest_85 : decode cX8_fewest 85 = .ok (.ifCond .eq 23, 3) := by decide +kernel
theorem dX8_fewest_88 : decode cX8_fewest 88 = .ok (.aload_n 0, 1) := by decide +kernel
theorem dX8_fewest_89 : decode cX8_fewest 89 = .ok (.iload 7, 2) := by decide +kernel
theorem dX8_fewest_91 : decode cX8_fewest 91 = .ok (.invokevirtual 155, 3) := by decide +kernel
theorem dX8_fewest_94 : decode cX8_fewest 94 = .ok (.lload_n 2, 1) := by decide +kernel
theorem dX8_fewest_95 : decode cX8_fewest 95 = .ok (.lcmp, 1) := by decide +kernel
theorem dX8_fewest_96 : decode cX8_fewest 96 = .ok (.ifCond .lt 12, 3) := by decide +kernel
theorem dX8_fewest_99 : decode cX8_fewest 99 = .ok (.aload_n 0, 1) := by decide +kernel
theorem dX8_fewest_100 : decode cX8_fewest 100 = .ok (.iload 7, 2) := by decide +kernel
theorem dX8_fewest_102 : decode cX8_fewest 102 = .ok (.invokevirtual 145, 3) := by decide +kernel
theorem dX8_fewest_105 : decode cX8_fewest 105 = .ok (.goto 5, 3) := by decide +kernel
theorem dX8_fewest_108 : decode cX8_fewest 108 = .ok (.iload 6, 2) := by decide +kernel
theorem dX8_fewest_110 : decode cX8_fewest 110 = .ok (.istore 6, 2) := by decide +kernel
theorem dX8_fewest_112 : decode cX8_fewest 112 = .ok (.iinc 7 1, 3) := by decide +kernel
theorem dX8_fewest_115 : decode cX8_fewest 115 = .ok (.goto (-74), 3) := by decide +kernel
theorem dX8_fewest_118 : decode cX8_fewest 118 = .ok (.iload 6, 2) := by decide +kernel
theorem dX8_fewest_120 : decode cX8_fewest 120 = .ok (.ireturn, 1) := by decide +kernel
set_option maxRecDepth 20000 in
theorem ggX8_expire_X8_in : GoodIn wsX8_expire wsX8_in := goodIn_r _ [7] (by decide +kernel) (by decide +kernel)
set_option maxRecDepth 20000 in
theorem gX8_expire_X8_in : GoodIn wsX8_expire (va_wsS RX8 42 yX8_in wsX8_in) := goodIn_app (goodIn_of _ (by decide +kernel)) ggX8_expire_X8_in
set_option maxRecDepth 20000 in
theorem ggX8_expire_X8_asked : GoodIn wsX8_expire wsX8_asked := goodIn_r _ [11, 3, 12, 13, 14, 6, 15, 4, 5, 7, 16, 17, 18, 19, 20, 21, 22, 60, 61, 62, 63, 64, 65, 66, 67, 68, 69, 70, 71, 72] (by decide +kernel) (by decide +kernel)
set_option maxRecDepth 20000 in
theorem gX8_expire_X8_asked : GoodIn wsX8_expire (wsV RX8 92 RX8 yX8_asked wsX8_asked) := goodIn_app (goodIn_of _ (by decide +kernel)) ggX8_expire_X8_asked
set_option maxRecDepth 20000 in
theorem ggX8_expire_X8_looksForOwned : GoodIn wsX8_expire wsX8_looksForOwned := goodIn_r _ [26, 1, 3, 2, 27, 28, 29, 6, 30, 16, 17, 18, 19, 4, 5, 7, 20, 21, 22, 60, 61, 62, 63, 64, 65, 66, 67, 68, 69, 70, 71, 72] (by decide +kernel) (by decide +kernel)
set_option maxRecDepth 20000 in
theorem gX8_expire_X8_looksForOwned : GoodIn wsX8_expire (wsV RX8 148 RX8 yX8_looksForOwned wsX8_looksForOwned) := goodIn_app (goodIn_of _ (by decide +kernel)) ggX8_expire_X8_looksForOwned
set_option maxRecDepth 20000 in
theorem ggX8_expire_X8_isLoose : GoodIn wsX8_expire wsX8_isLoose := goodIn_r _ [34, 3, 35, 36, 37, 6, 38, 39, 40, 41, 42, 43, 44, 45, 46, 16, 17, 18, 19, 4, 5, 7, 20, 21, 22, 27, 28, 29, 30, 60, 61, 62, 63, 64, 65, 66, 67, 68, 69, 70, 71, 72] (by decide +kernel) (by decide +kernel)
set_option maxRecDepth 20000 in
theorem gX8_expire_X8_isLoose : GoodIn wsX8_expire (wsV RX8 142 RX8 yX8_isLoose wsX8_isLoose) := goodIn_app (goodIn_of _ (by decide +kernel)) ggX8_expire_X8_isLoose
set_option maxRecDepth 20000 in
theorem ggX8_expire_X8_removed : GoodIn wsX8_expire wsX8_removed := goodIn_r _ [50, 3, 39, 40, 41, 6, 42, 43, 44, 45, 46, 16, 17, 18, 19, 4, 5, 7, 20, 21, 22, 27, 28, 29, 30, 51, 52, 53, 54, 55, 56, 57, 58, 59, 60, 61, 62, 63, 64, 65, 66, 67, 68, 69, 70, 71, 72] (by decide +kernel) (by decide +kernel)
set_option maxRecDepth 20000 in
theorem gX8_expire_X8_removed : GoodIn wsX8_expire (wsV RX8 112 RX8 yX8_removed wsX8_removed) := goodIn_app (goodIn_of _ (by decide +kernel)) ggX8_expire_X8_removed
theorem dX8_expire_0 : decode cX8_expire 0 = .ok (.iload_n 2, 1) := by decide +kernel
theorem dX8_expire_1 : decode cX8_expire 1 = .ok (.iconst 0, 1) := by decide +kernel
theorem dX8_expire_2 : decode cX8_expire 2 = .ok (.bipush 20, 2) := by decide +kernel
theorem dX8_expire_4 : decode cX8_expire 4 = .ok (.invokestatic 42, 3) := by decide +kernel
theorem dX8_expire_7 : decode cX8_expire 7 = .ok (.ifCond .eq 13, 3) := by decide +kernel
theorem dX8_expire_10 : decode cX8_expire 10 = .ok (.iload_n 3, 1) := by decide +kernel
theorem dX8_expire_11 : decode cX8_expire 11 = .ok (.iconst 1, 1) := by decide +kernel
theorem dX8_expire_12 : decode cX8_expire 12 = .ok (.bipush 100, 2) := by decide +kernel
theorem dX8_expire_14 : decode cX8_expire 14 = .ok (.invokestatic 42, 3) := by decide +kernel
theorem dX8_expire_17 : decode cX8_expire 17 = .ok (.ifCond .ne 6, 3) := by decide +kernel
theorem dX8_expire_20 : decode cX8_expire 20 = .ok (.bipush (-2), 2) := by decide +kernel
theorem dX8_expire_22 : decode cX8_expire 22 = .ok (.ireturn, 1) := by decide +kernel
theorem dX8_expire_23 : decode cX8_expire 23 = .ok (.aload_n 0, 1) := by decide +kernel
theorem dX8_expire_24 : decode cX8_expire 24 = .ok (.iload_n 1, 1) := by decide +kernel
theorem dX8_expire_25 : decode cX8_expire 25 = .ok (.iconst 0, 1) := by decide +kernel
theorem dX8_expire_26 : decode cX8_expire 26 = .ok (.invokevirtual 92, 3) := by decide +kernel
theorem dX8_expire_29 : decode cX8_expire 29 = .ok (.istore 4, 2) := by decide +kernel
theorem dX8_expire_31 : decode cX8_expire 31 = .ok (.iload 4, 2) := by decide +kernel
theorem dX8_expire_33 : decode cX8_expire 33 = .ok (.ifCond .eq 6, 3) := by decide +kernel
theorem dX8_expire_36 : decode cX8_expire 36 = .ok (.iload 4, 2) := by decide +kernel
theorem dX8_expire_38 : decode cX8_expire 38 = .ok (.ireturn, 1) := by decide +kernel
theorem dX8_expire_39 : decode cX8_expire 39 = .ok (.aload_n 0, 1) := by decide +kernel
theorem dX8_expire_40 : decode cX8_expire 40 = .ok (.iload_n 1, 1) := by decide +kernel
theorem dX8_expire_41 : decode cX8_expire 41 = .ok (.invokevirtual 148, 3) := by decide +kernel
theorem dX8_expire_44 : decode cX8_expire 44 = .ok (.iconst 0, 1) := by decide +kernel
theorem dX8_expire_45 : decode cX8_expire 45 = .ok (.istore 5, 2) := by decide +kernel
theorem dX8_expire_47 : decode cX8_expire 47 = .ok (.aload_n 0, 1) := by decide +kernel
theorem dX8_expire_48 : decode cX8_expire 48 = .ok (.getfield 139, 3) := by decide +kernel
theorem dX8_expire_51 : decode cX8_expire 51 = .ok (.iconst 1, 1) := by decide +kernel
theorem dX8_expire_52 : decode cX8_expire 52 = .ok (.isub, 1) := by decide +kernel
theorem dX8_expire_53 : decode cX8_expire 53 = .ok (.istore 6, 2) := by decide +kernel
theorem dX8_expire_55 : decode cX8_expire 55 = .ok (.iload 6, 2) := by decide +kernel
theorem dX8_expire_57 : decode cX8_expire 57 = .ok (.iload_n 2, 1) := by decide +kernel
theorem dX8_expire_58 : decode cX8_expire 58 = .ok (.if_icmp .lt 52, 3) := by decide +kernel
theorem dX8_expire_61 : decode cX8_expire 61 = .ok (.aload_n 0, 1) := by decide +kernel
theorem dX8_expire_62 : decode cX8_expire 62 = .ok (.getfield 22, 3) := by decide +kernel
theorem dX8_expire_65 : decode cX8_expire 65 = .ok (.iload 6, 2) := by decide +kernel
theorem dX8_expire_67 : decode cX8_expire 67 = .ok (.iaload, 1) := by decide +kernel
theorem dX8_expire_68 : decode cX8_expire 68 = .ok (.istore 7, 2) := by decide +kernel
theorem dX8_expire_70 : decode cX8_expire 70 = .ok (.aload_n 0, 1) := by decide +kernel
theorem dX8_expire_71 : decode cX8_expire 71 = .ok (.getfield 7, 3) := by decide +kernel
theorem dX8_expire_74 : decode cX8_expire 74 = .ok (.bipush 22, 2) := by decide +kernel
theorem dX8_expire_76 : decode cX8_expire 76 = .ok (.iload 7, 2) := by decide +kernel
theorem dX8_expire_78 : decode cX8_expire 78 = .ok (.iadd, 1) := by decide +kernel
theorem dX8_expire_79 : decode cX8_expire 79 = .ok (.iaload, 1) := by decide +kernel
theorem dX8_expire_80 : decode cX8_expire 80 = .ok (.iload_n 3, 1) := by decide +kernel
theorem dX8_expire_81 : decode cX8_expire 81 = .ok (.irem, 1) := by decide +kernel
theorem dX8_expire_82 : decode cX8_expire 82 = .ok (.ifCond .eq 22, 3) := by decide +kernel
theorem dX8_expire_85 : decode cX8_expire 85 = .ok (.aload_n 0, 1) := by decide +kernel
theorem dX8_expire_86 : decode cX8_expire 86 = .ok (.iload 7, 2) := by decide +kernel
theorem dX8_expire_88 : decode cX8_expire 88 = .ok (.invokevirtual 142, 3) := by decide +kernel
theorem dX8_expire_91 : decode cX8_expire 91 = .ok (.ifCond .eq 13, 3) := by decide +kernel
theorem dX8_expire_94 : decode cX8_expire 94 = .ok (.aload_n 0, 1) := by decide +kernel
theorem dX8_expire_95 : decode cX8_expire 95 = .ok (.iload 7, 2) := by decide +kernel
theorem dX8_expire_97 : decode cX8_expire 97 = .ok (.invokevirtual 112, 3) := by decide +kernel
theorem dX8_expire_100 : decode cX8_expire 100 = .ok (.pop, 1) := by decide +kernel
theorem dX8_expire_101 : decode cX8_expire 101 = .ok (.iinc 5 1, 3) := by decide +kernel
theorem dX8_expire_104 : decode cX8_expire 104 = .ok (.iinc 6 (-1), 3) := by decide +kernel
theorem dX8_expire_107 : decode cX8_expire 107 = .ok (.goto (-52), 3) := by decide +kernel
theorem dX8_expire_110 : decode cX8_expire 110 = .ok (.iload 5, 2) := by decide +kernel
theorem dX8_expire_112 : decode cX8_expire 112 = .ok (.ireturn, 1) := by decide +kernel
set_option maxRecDepth 20000 in
theorem ggX8_isSheet_X8_in : GoodIn wsX8_isSheet wsX8_in := goodIn_r _ [4] (by decide +kernel) (by decide +kernel)
set_option maxRecDepth 20000 in
theorem gX8_isSheet_X8_in : GoodIn wsX8_isSheet (va_wsS RX8 42 yX8_in wsX8_in) := goodIn_app (goodIn_of _ (by decide +kernel)) ggX8_isSheet_X8_in
theorem dX8_isSheet_0 : decode cX8_isSheet 0 = .ok (.iload_n 0, 1) := by decide +kernel
theorem dX8_isSheet_1 : decode cX8_isSheet 1 = .ok (.iconst 0, 1) := by decide +kernel
theorem dX8_isSheet_2 : decode cX8_isSheet 2 = .ok (.iconst 3, 1) := by decide +kernel
theorem dX8_isSheet_3 : decode cX8_isSheet 3 = .ok (.invokestatic 42, 3) := by decide +kernel
theorem dX8_isSheet_6 : decode cX8_isSheet 6 = .ok (.ireturn, 1) := by decide +kernel
theorem dX8_makes_0 : decode cX8_makes 0 = .ok (.aload_n 0, 1) := by decide +kernel
theorem dX8_makes_1 : decode cX8_makes 1 = .ok (.getfield 28, 3) := by decide +kernel
theorem dX8_makes_4 : decode cX8_makes 4 = .ok (.iload_n 1, 1) := by decide +kernel
theorem dX8_makes_5 : decode cX8_makes 5 = .ok (.iload_n 2, 1) := by decide +kernel
theorem dX8_makes_6 : decode cX8_makes 6 = .ok (.iastore, 1) := by decide +kernel
theorem dX8_makes_7 : decode cX8_makes 7 = .ok (.aload_n 0, 1) := by decide +kernel
theorem dX8_makes_8 : decode cX8_makes 8 = .ok (.getfield 31, 3) := by decide +kernel
theorem dX8_makes_11 : decode cX8_makes 11 = .ok (.iload_n 1, 1) := by decide +kernel
theorem dX8_makes_12 : decode cX8_makes 12 = .ok (.iload_n 3, 1) := by decide +kernel
theorem dX8_makes_13 : decode cX8_makes 13 = .ok (.iastore, 1) := by decide +kernel
theorem dX8_makes_14 : decode cX8_makes 14 = .ok (.iconst 0, 1) := by decide +kernel
theorem dX8_makes_15 : decode cX8_makes 15 = .ok (.istore 4, 2) := by decide +kernel
theorem dX8_makes_17 : decode cX8_makes 17 = .ok (.iload 4, 2) := by decide +kernel
theorem dX8_makes_19 : decode cX8_makes 19 = .ok (.bipush 40, 2) := by decide +kernel
theorem dX8_makes_21 : decode cX8_makes 21 = .ok (.if_icmp .ge 22, 3) := by decide +kernel
theorem dX8_makes_24 : decode cX8_makes 24 = .ok (.aload_n 0, 1) := by decide +kernel
theorem dX8_makes_25 : decode cX8_makes 25 = .ok (.getfield 34, 3) := by decide +kernel
theorem dX8_makes_28 : decode cX8_makes 28 = .ok (.bipush 40, 2) := by decide +kernel
theorem dX8_makes_30 : decode cX8_makes 30 = .ok (.iload_n 1, 1) := by decide +kernel
theorem dX8_makes_31 : decode cX8_makes 31 = .ok (.imul, 1) := by decide +kernel
theorem dX8_makes_32 : decode cX8_makes 32 = .ok (.iload 4, 2) := by decide +kernel
theorem dX8_makes_34 : decode cX8_makes 34 = .ok (.iadd, 1) := by decide +kernel
theorem dX8_makes_35 : decode cX8_makes 35 = .ok (.lconst 0, 1) := by decide +kernel
theorem dX8_makes_36 : decode cX8_makes 36 = .ok (.lastore, 1) := by decide +kernel
theorem dX8_makes_37 : decode cX8_makes 37 = .ok (.iinc 4 1, 3) := by decide +kernel
theorem dX8_makes_40 : decode cX8_makes 40 = .ok (.goto (-23), 3) := by decide +kernel
theorem dX8_makes_43 : decode cX8_makes 43 = .ok (.return_, 1) := by decide +kernel
set_option maxRecDepth 20000 in
theorem ggX8_sheet_X8_isSheet : GoodIn wsX8_sheet wsX8_isSheet := goodIn_r _ [4, 5, 6, 3, 7] (by decide +kernel) (by decide +kernel)
set_option maxRecDepth 20000 in
theorem gX8_sheet_X8_isSheet : GoodIn wsX8_sheet (va_wsS RX8 158 yX8_isSheet wsX8_isSheet) := goodIn_app (goodIn_of _ (by decide +kernel)) ggX8_sheet_X8_isSheet
set_option maxRecDepth 20000 in
theorem ggX8_sheet_X8_in : GoodIn wsX8_sheet wsX8_in := goodIn_r _ [7] (by decide +kernel) (by decide +kernel)
set_option maxRecDepth 20000 in
theorem gX8_sheet_X8_in : GoodIn wsX8_sheet (va_wsS RX8 42 yX8_in wsX8_in) := goodIn_app (goodIn_of _ (by decide +kernel)) ggX8_sheet_X8_in
set_option maxRecDepth 20000 in
theorem ggX8_sheet_X8_makes : GoodIn wsX8_sheet wsX8_makes := goodIn_r _ [11, 12, 13, 14, 15, 16, 17, 18, 19, 20, 21, 22, 23, 24, 25, 26, 27] (by decide +kernel) (by decide +kernel)
set_option maxRecDepth 20000 in
theorem gX8_sheet_X8_makes : GoodIn wsX8_sheet (wsV RX8 161 RX8 yX8_makes wsX8_makes) := goodIn_app (goodIn_of _ (by decide +kernel)) ggX8_sheet_X8_makes
theorem dX8_sheet_0 : decode cX8_sheet 0 = .ok (.iload_n 1, 1) := by decide +kernel
theorem dX8_sheet_1 : decode cX8_sheet 1 = .ok (.invokestatic 158, 3) := by decide +kernel
theorem dX8_sheet_4 : decode cX8_sheet 4 = .ok (.ifCond .eq 23, 3) := by decide +kernel
theorem dX8_sheet_7 : decode cX8_sheet 7 = .ok (.iload_n 2, 1) := by decide +kernel
theorem dX8_sheet_8 : decode cX8_sheet 8 = .ok (.iconst (-1), 1) := by decide +kernel
theorem dX8_sheet_9 : decode cX8_sheet 9 = .ok (.iconst 1, 1) := by decide +kernel
theorem dX8_sheet_10 : decode cX8_sheet 10 = .ok (.invokestatic 42, 3) := by decide +kernel
theorem dX8_sheet_13 : decode cX8_sheet 13 = .ok (.ifCond .eq 14, 3) := by decide +kernel
theorem dX8_sheet_16 : decode cX8_sheet 16 = .ok (.iload_n 2, 1) := by decide +kernel
theorem dX8_sheet_17 : decode cX8_sheet 17 = .ok (.iconst (-1), 1) := by decide +kernel
theorem dX8_sheet_18 : decode cX8_sheet 18 = .ok (.if_icmp .eq 12, 3) := by decide +kernel
theorem dX8_sheet_21 : decode cX8_sheet 21 = .ok (.iload_n 3, 1) := by decide +kernel
theorem dX8_sheet_22 : decode cX8_sheet 22 = .ok (.bipush 40, 2) := by decide +kernel
theorem dX8_sheet_24 : decode cX8_sheet 24 = .ok (.if_icmp .le 6, 3) := by decide +kernel
theorem dX8_sheet_27 : decode cX8_sheet 27 = .ok (.bipush (-2), 2) := by decide +kernel
theorem dX8_sheet_29 : decode cX8_sheet 29 = .ok (.ireturn, 1) := by decide +kernel
theorem dX8_sheet_30 : decode cX8_sheet 30 = .ok (.iload_n 2, 1) := by decide +kernel
theorem dX8_sheet_31 : decode cX8_sheet 31 = .ok (.iconst (-1), 1) := by decide +kernel
theorem dX8_sheet_32 : decode cX8_sheet 32 = .ok (.if_icmp .eq 10, 3) := by decide +kernel
theorem dX8_sheet_35 : decode cX8_sheet 35 = .ok (.iload_n 3, 1) := by decide +kernel
theorem dX8_sheet_36 : decode cX8_sheet 36 = .ok (.ifCond .ge 6, 3) := by decide +kernel
theorem dX8_sheet_39 : decode cX8_sheet 39 = .ok (.bipush (-14), 2) := by decide +kernel
theorem dX8_sheet_41 : decode cX8_sheet 41 = .ok (.ireturn, 1) := by decide +kernel
theorem dX8_sheet_42 : decode cX8_sheet 42 = .ok (.aload_n 0, 1) := by decide +kernel
theorem dX8_sheet_43 : decode cX8_sheet 43 = .ok (.iload_n 1, 1) := by decide +kernel
theorem dX8_sheet_44 : decode cX8_sheet 44 = .ok (.iload_n 2, 1) := by decide +kernel
theorem dX8_sheet_45 : decode cX8_sheet 45 = .ok (.iload_n 2, 1) := by decide +kernel
theorem dX8_sheet_46 : decode cX8_sheet 46 = .ok (.iconst (-1), 1) := by decide +kernel
theorem dX8_sheet_47 : decode cX8_sheet 47 = .ok (.if_icmp .ne 7, 3) := by decide +kernel
theorem dX8_sheet_50 : decode cX8_sheet 50 = .ok (.iconst 0, 1) := by decide +kernel
theorem dX8_sheet_51 : decode cX8_sheet 51 = .ok (.goto 4, 3) := by decide +kernel
theorem dX8_sheet_54 : decode cX8_sheet 54 = .ok (.iload_n 3, 1) := by decide +kernel
theorem dX8_sheet_55 : decode cX8_sheet 55 = .ok (.invokevirtual 161, 3) := by decide +kernel
theorem dX8_sheet_58 : decode cX8_sheet 58 = .ok (.iconst 1, 1) := by decide +kernel
theorem dX8_sheet_59 : decode cX8_sheet 59 = .ok (.ireturn, 1) := by decide +kernel
set_option maxRecDepth 20000 in
theorem ggX8_cell_X8_isSheet : GoodIn wsX8_cell wsX8_isSheet := goodIn_r _ [7, 8, 9, 6, 10] (by decide +kernel) (by decide +kernel)
set_option maxRecDepth 20000 in
theorem gX8_cell_X8_isSheet : GoodIn wsX8_cell (va_wsS RX8 158 yX8_isSheet wsX8_isSheet) := goodIn_app (goodIn_of _ (by decide +kernel)) ggX8_cell_X8_isSheet
set_option maxRecDepth 20000 in
theorem ggX8_cell_X8_in : GoodIn wsX8_cell wsX8_in := goodIn_r _ [10] (by decide +kernel) (by decide +kernel)
set_option maxRecDepth 20000 in
theorem gX8_cell_X8_in : GoodIn wsX8_cell (va_wsS RX8 42 yX8_in wsX8_in) := goodIn_app (goodIn_of _ (by decide +kernel)) ggX8_cell_X8_in
theorem dX8_cell_0 : decode cX8_cell 0 = .ok (.iload_n 1, 1) := by decide +kernel
theorem dX8_cell_1 : decode cX8_cell 1 = .ok (.invokestatic 158, 3) := by decide +kernel
theorem dX8_cell_4 : decode cX8_cell 4 = .ok (.ifCond .ne 6, 3) := by decide +kernel
theorem dX8_cell_7 : decode cX8_cell 7 = .ok (.bipush (-2), 2) := by decide +kernel
theorem dX8_cell_9 : decode cX8_cell 9 = .ok (.ireturn, 1) := by decide +kernel
theorem dX8_cell_10 : decode cX8_cell 10 = .ok (.aload_n 0, 1) := by decide +kernel
theorem dX8_cell_11 : decode cX8_cell 11 = .ok (.getfield 28, 3) := by decide +kernel
theorem dX8_cell_14 : decode cX8_cell 14 = .ok (.iload_n 1, 1) := by decide +kernel
theorem dX8_cell_15 : decode cX8_cell 15 = .ok (.iaload, 1) := by decide +kernel
theorem dX8_cell_16 : decode cX8_cell 16 = .ok (.iconst (-1), 1) := by decide +kernel
theorem dX8_cell_17 : decode cX8_cell 17 = .ok (.if_icmp .ne 6, 3) := by decide +kernel
theorem dX8_cell_20 : decode cX8_cell 20 = .ok (.bipush (-11), 2) := by decide +kernel
theorem dX8_cell_22 : decode cX8_cell 22 = .ok (.ireturn, 1) := by decide +kernel
theorem dX8_cell_23 : decode cX8_cell 23 = .ok (.iload_n 2, 1) := by decide +kernel
theorem dX8_cell_24 : decode cX8_cell 24 = .ok (.iconst 0, 1) := by decide +kernel
theorem dX8_cell_25 : decode cX8_cell 25 = .ok (.aload_n 0, 1) := by decide +kernel
theorem dX8_cell_26 : decode cX8_cell 26 = .ok (.getfield 31, 3) := by decide +kernel
theorem dX8_cell_29 : decode cX8_cell 29 = .ok (.iload_n 1, 1) := by decide +kernel
theorem dX8_cell_30 : decode cX8_cell 30 = .ok (.iaload, 1) := by decide +kernel
theorem dX8_cell_31 : decode cX8_cell 31 = .ok (.iconst 1, 1) := by decide +kernel
theorem dX8_cell_32 : decode cX8_cell 32 = .ok (.isub, 1) := by decide +kernel
theorem dX8_cell_33 : decode cX8_cell 33 = .ok (.invokestatic 42, 3) := by decide +kernel
theorem dX8_cell_36 : decode cX8_cell 36 = .ok (.ifCond .ne 6, 3) := by decide +kernel
theorem dX8_cell_39 : decode cX8_cell 39 = .ok (.bipush (-12), 2) := by decide +kernel
theorem dX8_cell_41 : decode cX8_cell 41 = .ok (.ireturn, 1) := by decide +kernel
theorem dX8_cell_42 : decode cX8_cell 42 = .ok (.aload_n 0, 1) := by decide +kernel
theorem dX8_cell_43 : decode cX8_cell 43 = .ok (.getfield 34, 3) := by decide +kernel
theorem dX8_cell_46 : decode cX8_cell 46 = .ok (.bipush 40, 2) := by decide +kernel
theorem dX8_cell_48 : decode cX8_cell 48 = .ok (.iload_n 1, 1) := by decide +kernel
theorem dX8_cell_49 : decode cX8_cell 49 = .ok (.imul, 1) := by decide +kernel
theorem dX8_cell_50 : decode cX8_cell 50 = .ok (.iload_n 2, 1) := by decide +kernel
theorem dX8_cell_51 : decode cX8_cell 51 = .ok (.iadd, 1) := by decide +kernel
theorem dX8_cell_52 : decode cX8_cell 52 = .ok (.aload_n 0, 1) := by decide +kernel
theorem dX8_cell_53 : decode cX8_cell 53 = .ok (.getfield 28, 3) := by decide +kernel
theorem dX8_cell_56 : decode cX8_cell 56 = .ok (.iload_n 1, 1) := by decide +kernel
theorem dX8_cell_57 : decode cX8_cell 57 = .ok (.iaload, 1) := by decide +kernel
theorem dX8_cell_58 : decode cX8_cell 58 = .ok (.ifCond .ne 9, 3) := by decide +kernel
theorem dX8_cell_61 : decode cX8_cell 61 = .ok (.lload_n 3, 1) := by decide +kernel
theorem dX8_cell_62 : decode cX8_cell 62 = .ok (.l2i, 1) := by decide +kernel
theorem dX8_cell_63 : decode cX8_cell 63 = .ok (.i2l, 1) := by decide +kernel
theorem dX8_cell_64 : decode cX8_cell 64 = .ok (.goto 4, 3) := by decide +kernel
theorem dX8_cell_67 : decode cX8_cell 67 = .ok (.lload_n 3, 1) := by decide +kernel
theorem dX8_cell_68 : decode cX8_cell 68 = .ok (.lastore, 1) := by decide +kernel
theorem dX8_cell_69 : decode cX8_cell 69 = .ok (.iconst 1, 1) := by decide +kernel
theorem dX8_cell_70 : decode cX8_cell 70 = .ok (.ireturn, 1) := by decide +kernel
set_option maxRecDepth 20000 in
theorem ggX8_item_X8_isSheet : GoodIn wsX8_item wsX8_isSheet := goodIn_r _ [8, 9, 10, 7, 11] (by decide +kernel) (by decide +kernel)
set_option maxRecDepth 20000 in
theorem gX8_item_X8_isSheet : GoodIn wsX8_item (va_wsS RX8 158 yX8_isSheet wsX8_isSheet) := goodIn_app (goodIn_of _ (by decide +kernel)) ggX8_item_X8_isSheet
set_option maxRecDepth 20000 in
theorem ggX8_item_X8_in : GoodIn wsX8_item wsX8_in := goodIn_r _ [11] (by decide +kernel) (by decide +kernel)
set_option maxRecDepth 20000 in
theorem gX8_item_X8_in : GoodIn wsX8_item (va_wsS RX8 42 yX8_in wsX8_in) := goodIn_app (goodIn_of _ (by decide +kernel)) ggX8_item_X8_in
theorem dX8_item_0 : decode cX8_item 0 = .ok (.iload_n 1, 1) := by decide +kernel
theorem dX8_item_1 : decode cX8_item 1 = .ok (.invokestatic 158, 3) := by decide +kernel
theorem dX8_item_4 : decode cX8_item 4 = .ok (.ifCond .eq 43, 3) := by decide +kernel
theorem dX8_item_7 : decode cX8_item 7 = .ok (.aload_n 0, 1) := by decide +kernel
theorem dX8_item_8 : decode cX8_item 8 = .ok (.getfield 28, 3) := by decide +kernel
theorem dX8_item_11 : decode cX8_item 11 = .ok (.iload_n 1, 1) := by decide +kernel
theorem dX8_item_12 : decode cX8_item 12 = .ok (.iaload, 1) := by decide +kernel
theorem dX8_item_13 : decode cX8_item 13 = .ok (.iconst (-1), 1) := by decide +kernel
theorem dX8_item_14 : decode cX8_item 14 = .ok (.if_icmp .eq 33, 3) := by decide +kernel
theorem dX8_item_17 : decode cX8_item 17 = .ok (.iload_n 2, 1) := by decide +kernel
theorem dX8_item_18 : decode cX8_item 18 = .ok (.iconst 0, 1) := by decide +kernel
theorem dX8_item_19 : decode cX8_item 19 = .ok (.aload_n 0, 1) := by decide +kernel
theorem dX8_item_20 : decode cX8_item 20 = .ok (.getfield 31, 3) := by decide +kernel
theorem dX8_item_23 : decode cX8_item 23 = .ok (.iload_n 1, 1) := by decide +kernel
theorem dX8_item_24 : decode cX8_item 24 = .ok (.iaload, 1) := by decide +kernel
theorem dX8_item_25 : decode cX8_item 25 = .ok (.iconst 1, 1) := by decide +kernel
theorem dX8_item_26 : decode cX8_item 26 = .ok (.isub, 1) := by decide +kernel
theorem dX8_item_27 : decode cX8_item 27 = .ok (.invokestatic 42, 3) := by decide +kernel
theorem dX8_item_30 : decode cX8_item 30 = .ok (.ifCond .eq 17, 3) := by decide +kernel
theorem dX8_item_33 : decode cX8_item 33 = .ok (.aload_n 0, 1) := by decide +kernel
theorem dX8_item_34 : decode cX8_item 34 = .ok (.getfield 34, 3) := by decide +kernel
theorem dX8_item_37 : decode cX8_item 37 = .ok (.bipush 40, 2) := by decide +kernel
theorem dX8_item_39 : decode cX8_item 39 = .ok (.iload_n 1, 1) := by decide +kernel
theorem dX8_item_40 : decode cX8_item 40 = .ok (.imul, 1) := by decide +kernel
theorem dX8_item_41 : decode cX8_item 41 = .ok (.iload_n 2, 1) := by decide +kernel
theorem dX8_item_42 : decode cX8_item 42 = .ok (.iadd, 1) := by decide +kernel
theorem dX8_item_43 : decode cX8_item 43 = .ok (.laload, 1) := by decide +kernel
theorem dX8_item_44 : decode cX8_item 44 = .ok (.goto 6, 3) := by decide +kernel
theorem dX8_item_47 : decode cX8_item 47 = .ok (.ldc2_w 134, 3) := by decide +kernel
theorem dX8_item_50 : decode cX8_item 50 = .ok (.lreturn, 1) := by decide +kernel
set_option maxRecDepth 20000 in
theorem ggX8_differ_X8_isSheet : GoodIn wsX8_differ wsX8_isSheet := goodIn_r _ [7, 8, 9, 6, 10] (by decide +kernel) (by decide +kernel)
set_option maxRecDepth 20000 in
theorem gX8_differ_X8_isSheet : GoodIn wsX8_differ (va_wsS RX8 158 yX8_isSheet wsX8_isSheet) := goodIn_app (goodIn_of _ (by decide +kernel)) ggX8_differ_X8_isSheet
set_option maxRecDepth 20000 in
theorem ggX8_differ_X8_askedSlots : GoodIn wsX8_differ wsX8_askedSlots := goodIn_r _ [14, 15, 16, 17, 6, 18, 8, 9, 10, 19, 20, 21, 22, 1, 23, 24, 25, 26, 27, 28, 29, 30, 31, 32, 33, 34, 35, 36, 37, 47, 48, 49, 50, 51, 52, 53, 54, 55, 56, 57, 58, 59] (by decide +kernel) (by decide +kernel)
set_option maxRecDepth 20000 in
theorem gX8_differ_X8_askedSlots : GoodIn wsX8_differ (wsV RX8 122 RX8 yX8_askedSlots wsX8_askedSlots) := goodIn_app (goodIn_of _ (by decide +kernel)) ggX8_differ_X8_askedSlots
set_option maxRecDepth 20000 in
theorem ggX8_differ_X8_makes : GoodIn wsX8_differ wsX8_makes := goodIn_r _ [41, 42, 3, 2, 47, 48, 49, 50, 51, 52, 53, 54, 55, 56, 57, 58, 59] (by decide +kernel) (by decide +kernel)
set_option maxRecDepth 20000 in
theorem gX8_differ_X8_makes : GoodIn wsX8_differ (wsV RX8 161 RX8 yX8_makes wsX8_makes) := goodIn_app (goodIn_of _ (by decide +kernel)) ggX8_differ_X8_makes
set_option maxRecDepth 20000 in
theorem ggX8_differ_X8_sizeIn : GoodIn wsX8_differ wsX8_sizeIn := goodIn_r _ [46, 1, 47, 48, 49, 50, 51, 52, 53, 54, 55, 56, 57, 58, 59] (by decide +kernel) (by decide +kernel)
set_option maxRecDepth 20000 in
theorem gX8_differ_X8_sizeIn : GoodIn wsX8_differ (wsV RX8 86 RX8 yX8_sizeIn wsX8_sizeIn) := goodIn_app (goodIn_of _ (by decide +kernel)) ggX8_differ_X8_sizeIn
theorem dX8_differ_0 : decode cX8_differ 0 = .ok (.iload_n 1, 1) := by decide +kernel
theorem dX8_differ_1 : decode cX8_differ 1 = .ok (.invokestatic 158, 3) := by decide +kernel
theorem dX8_differ_4 : decode cX8_differ 4 = .ok (.ifCond .ne 6, 3) := by decide +kernel
theorem dX8_differ_7 : decode cX8_differ 7 = .ok (.bipush (-2), 2) := by decide +kernel
theorem dX8_differ_9 : decode cX8_differ 9 = .ok (.ireturn, 1) := by decide +kernel
theorem dX8_differ_10 : decode cX8_differ 10 = .ok (.aload_n 0, 1) := by decide +kernel
theorem dX8_differ_11 : decode cX8_differ 11 = .ok (.iload_n 2, 1) := by decide +kernel
theorem dX8_differ_12 : decode cX8_differ 12 = .ok (.invokevirtual 122, 3) := by decide +kernel
theorem dX8_differ_15 : decode cX8_differ 15 = .ok (.istore 4, 2) := by decide +kernel
theorem dX8_differ_17 : decode cX8_differ 17 = .ok (.iload 4, 2) := by decide +kernel
theorem dX8_differ_19 : decode cX8_differ 19 = .ok (.ifCond .eq 8, 3) := by decide +kernel
theorem dX8_differ_22 : decode cX8_differ 22 = .ok (.iload 4, 2) := by decide +kernel
theorem dX8_differ_24 : decode cX8_differ 24 = .ok (.goto 8, 3) := by decide +kernel
theorem dX8_differ_27 : decode cX8_differ 27 = .ok (.aload_n 0, 1) := by decide +kernel
theorem dX8_differ_28 : decode cX8_differ 28 = .ok (.iload_n 3, 1) := by decide +kernel
theorem dX8_differ_29 : decode cX8_differ 29 = .ok (.invokevirtual 122, 3) := by decide +kernel
theorem dX8_differ_32 : decode cX8_differ 32 = .ok (.istore 4, 2) := by decide +kernel
theorem dX8_differ_34 : decode cX8_differ 34 = .ok (.iload 4, 2) := by decide +kernel
theorem dX8_differ_36 : decode cX8_differ 36 = .ok (.ifCond .eq 6, 3) := by decide +kernel
theorem dX8_differ_39 : decode cX8_differ 39 = .ok (.iload 4, 2) := by decide +kernel
theorem dX8_differ_41 : decode cX8_differ 41 = .ok (.ireturn, 1) := by decide +kernel
theorem dX8_differ_42 : decode cX8_differ 42 = .ok (.aload_n 0, 1) := by decide +kernel
theorem dX8_differ_43 : decode cX8_differ 43 = .ok (.iload_n 1, 1) := by decide +kernel
theorem dX8_differ_44 : decode cX8_differ 44 = .ok (.iconst 1, 1) := by decide +kernel
theorem dX8_differ_45 : decode cX8_differ 45 = .ok (.iconst 0, 1) := by decide +kernel
theorem dX8_differ_46 : decode cX8_differ 46 = .ok (.invokevirtual 161, 3) := by decide +kernel
theorem dX8_differ_49 : decode cX8_differ 49 = .ok (.iconst 0, 1) := by decide +kernel
theorem dX8_differ_50 : decode cX8_differ 50 = .ok (.istore 5, 2) := by decide +kernel
theorem dX8_differ_52 : decode cX8_differ 52 = .ok (.iconst 0, 1) := by decide +kernel
theorem dX8_differ_53 : decode cX8_differ 53 = .ok (.istore 6, 2) := by decide +kernel
theorem dX8_differ_55 : decode cX8_differ 55 = .ok (.iload 6, 2) := by decide +kernel
theorem dX8_differ_57 : decode cX8_differ 57 = .ok (.bipush 12, 2) := by decide +kernel
theorem dX8_differ_59 : decode cX8_differ 59 = .ok (.if_icmp .ge 82, 3) := by decide +kernel
theorem dX8_differ_62 : decode cX8_differ 62 = .ok (.aload_n 0, 1) := by decide +kernel
theorem dX8_differ_63 : decode cX8_differ 63 = .ok (.getfield 7, 3) := by decide +kernel
theorem dX8_differ_66 : decode cX8_differ 66 = .ok (.bipush 122, 2) := by decide +kernel
theorem dX8_differ_68 : decode cX8_differ 68 = .ok (.bipush 12, 2) := by decide +kernel
theorem dX8_differ_70 : decode cX8_differ 70 = .ok (.iload_n 2, 1) := by decide +kernel
theorem dX8_differ_71 : decode cX8_differ 71 = .ok (.imul, 1) := by decide +kernel
theorem dX8_differ_72 : decode cX8_differ 72 = .ok (.iadd, 1) := by decide +kernel
theorem dX8_differ_73 : decode cX8_differ 73 = .ok (.iload 6, 2) := by decide +kernel
theorem dX8_differ_75 : decode cX8_differ 75 = .ok (.iadd, 1) := by decide +kernel
theorem dX8_differ_76 : decode cX8_differ 76 = .ok (.iaload, 1) := by decide +kernel
theorem dX8_differ_77 : decode cX8_differ 77 = .ok (.aload_n 0, 1) := by decide +kernel
theorem dX8_differ_78 : decode cX8_differ 78 = .ok (.getfield 7, 3) := by decide +kernel
theorem dX8_differ_81 : decode cX8_differ 81 = .ok (.bipush 122, 2) := by decide +kernel
theorem dX8_differ_83 : decode cX8_differ 83 = .ok (.bipush 12, 2) := by decide +kernel
theorem dX8_differ_85 : decode cX8_differ 85 = .ok (.iload_n 3, 1) := by decide +kernel
theorem dX8_differ_86 : decode cX8_differ 86 = .ok (.imul, 1) := by decide +kernel
theorem dX8_differ_87 : decode cX8_differ 87 = .ok (.iadd, 1) := by decide +kernel
theorem dX8_differ_88 : decode cX8_differ 88 = .ok (.iload 6, 2) := by decide +kernel
theorem dX8_differ_90 : decode cX8_differ 90 = .ok (.iadd, 1) := by decide +kernel
theorem dX8_differ_91 : decode cX8_differ 91 = .ok (.iaload, 1) := by decide +kernel
theorem dX8_differ_92 : decode cX8_differ 92 = .ok (.if_icmp .eq 43, 3) := by decide +kernel
theorem dX8_differ_95 : decode cX8_differ 95 = .ok (.aload_n 0, 1) := by decide +kernel
theorem dX8_differ_96 : decode cX8_differ 96 = .ok (.getfield 34, 3) := by decide +kernel
theorem dX8_differ_99 : decode cX8_differ 99 = .ok (.bipush 40, 2) := by decide +kernel
theorem dX8_differ_101 : decode cX8_differ 101 = .ok (.iload_n 1, 1) := by decide +kernel
theorem dX8_differ_102 : decode cX8_differ 102 = .ok (.imul, 1) := by decide +kernel
theorem dX8_differ_103 : decode cX8_differ 103 = .ok (.iload 5, 2) := by decide +kernel
theorem dX8_differ_105 : decode cX8_differ 105 = .ok (.iadd, 1) := by decide +kernel
theorem dX8_differ_106 : decode cX8_differ 106 = .ok (.iload 6, 2) := by decide +kernel
theorem dX8_differ_108 : decode cX8_differ 108 = .ok (.i2l, 1) := by decide +kernel
theorem dX8_differ_109 : decode cX8_differ 109 = .ok (.lastore, 1) := by decide +kernel
theorem dX8_differ_110 : decode cX8_differ 110 = .ok (.aload_n 0, 1) := by decide +kernel
theorem dX8_differ_111 : decode cX8_differ 111 = .ok (.getfield 34, 3) := by decide +kernel
theorem dX8_differ_114 : decode cX8_differ 114 = .ok (.bipush 40, 2) := by decide +kernel
theorem dX8_differ_116 : decode cX8_differ 116 = .ok (.iload_n 1, 1) := by decide +kernel
theorem dX8_differ_117 : decode cX8_differ 117 = .ok (.imul, 1) := by decide +kernel
theorem dX8_differ_118 : decode cX8_differ 118 = .ok (.iload 5, 2) := by decide +kernel
theorem dX8_differ_120 : decode cX8_differ 120 = .ok (.iadd, 1) := by decide +kernel
theorem dX8_differ_121 : decode cX8_differ 121 = .ok (.iconst 1, 1) := by decide +kernel
theorem dX8_differ_122 : decode cX8_differ 122 = .ok (.iadd, 1) := by decide +kernel
theorem dX8_differ_123 : decode cX8_differ 123 = .ok (.aload_n 0, 1) := by decide +kernel
theorem dX8_differ_124 : decode cX8_differ 124 = .ok (.iload_n 3, 1) := by decide +kernel
theorem dX8_differ_125 : decode cX8_differ 125 = .ok (.iload 6, 2) := by decide +kernel
theorem dX8_differ_127 : decode cX8_differ 127 = .ok (.invokevirtual 86, 3) := by decide +kernel
theorem dX8_differ_130 : decode cX8_differ 130 = .ok (.i2l, 1) := by decide +kernel
theorem dX8_differ_131 : decode cX8_differ 131 = .ok (.lastore, 1) := by decide +kernel
theorem dX8_differ_132 : decode cX8_differ 132 = .ok (.iinc 5 2, 3) := by decide +kernel
theorem dX8_differ_135 : decode cX8_differ 135 = .ok (.iinc 6 1, 3) := by decide +kernel
theorem dX8_differ_138 : decode cX8_differ 138 = .ok (.goto (-83), 3) := by decide +kernel
theorem dX8_differ_141 : decode cX8_differ 141 = .ok (.aload_n 0, 1) := by decide +kernel
theorem dX8_differ_142 : decode cX8_differ 142 = .ok (.getfield 31, 3) := by decide +kernel
theorem dX8_differ_145 : decode cX8_differ 145 = .ok (.iload_n 1, 1) := by decide +kernel
theorem dX8_differ_146 : decode cX8_differ 146 = .ok (.iload 5, 2) := by decide +kernel
theorem dX8_differ_148 : decode cX8_differ 148 = .ok (.iastore, 1) := by decide +kernel
theorem dX8_differ_149 : decode cX8_differ 149 = .ok (.iload 5, 2) := by decide +kernel
theorem dX8_differ_151 : decode cX8_differ 151 = .ok (.ireturn, 1) := by decide +kernel
set_option maxRecDepth 20000 in
theorem ggX8_isApplied_X8_erased : GoodIn wsX8_isApplied wsX8_erased := goodIn_r _ [7, 8, 9, 10, 11, 6, 12, 13, 14, 15, 16, 17, 18, 19, 20, 21, 22, 23, 24, 25, 26, 27, 28, 29, 30, 31, 32, 33, 34, 35, 36, 37, 38, 39, 56, 57, 58, 59, 60, 61, 62, 63, 64, 65, 66, 67, 68] (by decide +kernel) (by decide +kernel)
set_option maxRecDepth 20000 in
theorem gX8_isApplied_X8_erased : GoodIn wsX8_isApplied (wsV RX8 99 RX8 yX8_erased wsX8_erased) := goodIn_app (goodIn_of _ (by decide +kernel)) ggX8_isApplied_X8_erased
set_option maxRecDepth 20000 in
theorem ggX8_isApplied_X8_written : GoodIn wsX8_isApplied wsX8_written := goodIn_r _ [43, 8, 44, 45, 46, 6, 47, 48, 49, 50, 51, 52, 53, 54, 55, 9, 10, 11, 12, 13, 14, 15, 16, 17, 18, 19, 20, 21, 22, 23, 24, 25, 26, 27, 28, 29, 30, 31, 32, 33, 34, 35, 36, 37, 38, 39, 56, 57, 58, 59, 60, 61, 62, 63, 64, 65, 66, 67, 68] (by decide +kernel) (by decide +kernel)
set_option maxRecDepth 20000 in
theorem gX8_isApplied_X8_written : GoodIn wsX8_isApplied (wsV RX8 95 RX8 yX8_written wsX8_written) := goodIn_app (goodIn_of _ (by decide +kernel)) ggX8_isApplied_X8_written
theorem dX8_isApplied_0 : decode cX8_isApplied 0 = .ok (.lload_n 2, 1) := by decide +kernel
theorem dX8_isApplied_1 : decode cX8_isApplied 1 = .ok (.lconst 0, 1) := by decide +kernel
theorem dX8_isApplied_2 : decode cX8_isApplied 2 = .ok (.lcmp, 1) := by decide +kernel
theorem dX8_isApplied_3 : decode cX8_isApplied 3 = .ok (.ifCond .lt 27, 3) := by decide +kernel
theorem dX8_isApplied_6 : decode cX8_isApplied 6 = .ok (.lload_n 2, 1) := by decide +kernel
theorem dX8_isApplied_7 : decode cX8_isApplied 7 = .ok (.ldc2_w 165, 3) := by decide +kernel
theorem dX8_isApplied_10 : decode cX8_isApplied 10 = .ok (.lcmp, 1) := by decide +kernel
theorem dX8_isApplied_11 : decode cX8_isApplied 11 = .ok (.ifCond .gt 19, 3) := by decide +kernel
theorem dX8_isApplied_14 : decode cX8_isApplied 14 = .ok (.lload 4, 2) := by decide +kernel
theorem dX8_isApplied_16 : decode cX8_isApplied 16 = .ok (.lconst 0, 1) := by decide +kernel
theorem dX8_isApplied_17 : decode cX8_isApplied 17 = .ok (.lcmp, 1) := by decide +kernel
theorem dX8_isApplied_18 : decode cX8_isApplied 18 = .ok (.ifCond .lt 12, 3) := by decide +kernel
theorem dX8_isApplied_21 : decode cX8_isApplied 21 = .ok (.lload 4, 2) := by decide +kernel
theorem dX8_isApplied_23 : decode cX8_isApplied 23 = .ok (.ldc2_w 167, 3) := by decide +kernel
theorem dX8_isApplied_26 : decode cX8_isApplied 26 = .ok (.lcmp, 1) := by decide +kernel
theorem dX8_isApplied_27 : decode cX8_isApplied 27 = .ok (.ifCond .le 5, 3) := by decide +kernel
theorem dX8_isApplied_30 : decode cX8_isApplied 30 = .ok (.iconst 0, 1) := by decide +kernel
theorem dX8_isApplied_31 : decode cX8_isApplied 31 = .ok (.ireturn, 1) := by decide +kernel
theorem dX8_isApplied_32 : decode cX8_isApplied 32 = .ok (.lload 4, 2) := by decide +kernel
theorem dX8_isApplied_34 : decode cX8_isApplied 34 = .ok (.lconst 0, 1) := by decide +kernel
theorem dX8_isApplied_35 : decode cX8_isApplied 35 = .ok (.lcmp, 1) := by decide +kernel
theorem dX8_isApplied_36 : decode cX8_isApplied 36 = .ok (.ifCond .ne 13, 3) := by decide +kernel
theorem dX8_isApplied_39 : decode cX8_isApplied 39 = .ok (.aload_n 0, 1) := by decide +kernel
theorem dX8_isApplied_40 : decode cX8_isApplied 40 = .ok (.iload_n 1, 1) := by decide +kernel
theorem dX8_isApplied_41 : decode cX8_isApplied 41 = .ok (.lload_n 2, 1) := by decide +kernel
theorem dX8_isApplied_42 : decode cX8_isApplied 42 = .ok (.l2i, 1) := by decide +kernel
theorem dX8_isApplied_43 : decode cX8_isApplied 43 = .ok (.invokevirtual 99, 3) := by decide +kernel
theorem dX8_isApplied_46 : decode cX8_isApplied 46 = .ok (.pop, 1) := by decide +kernel
theorem dX8_isApplied_47 : decode cX8_isApplied 47 = .ok (.iconst 1, 1) := by decide +kernel
theorem dX8_isApplied_48 : decode cX8_isApplied 48 = .ok (.ireturn, 1) := by decide +kernel
theorem dX8_isApplied_49 : decode cX8_isApplied 49 = .ok (.aload_n 0, 1) := by decide +kernel
theorem dX8_isApplied_50 : decode cX8_isApplied 50 = .ok (.iload_n 1, 1) := by decide +kernel
theorem dX8_isApplied_51 : decode cX8_isApplied 51 = .ok (.lload_n 2, 1) := by decide +kernel
theorem dX8_isApplied_52 : decode cX8_isApplied 52 = .ok (.l2i, 1) := by decide +kernel
theorem dX8_isApplied_53 : decode cX8_isApplied 53 = .ok (.lload 4, 2) := by decide +kernel
theorem dX8_isApplied_55 : decode cX8_isApplied 55 = .ok (.l2i, 1) := by decide +kernel
theorem dX8_isApplied_56 : decode cX8_isApplied 56 = .ok (.invokevirtual 95, 3) := by decide +kernel
theorem dX8_isApplied_59 : decode cX8_isApplied 59 = .ok (.ifCond .lt 7, 3) := by decide +kernel
theorem dX8_isApplied_62 : decode cX8_isApplied 62 = .ok (.iconst 1, 1) := by decide +kernel
theorem dX8_isApplied_63 : decode cX8_isApplied 63 = .ok (.goto 4, 3) := by decide +kernel
theorem dX8_isApplied_66 : decode cX8_isApplied 66 = .ok (.iconst 0, 1) := by decide +kernel
theorem dX8_isApplied_67 : decode cX8_isApplied 67 = .ok (.ireturn, 1) := by decide +kernel
set_option maxRecDepth 20000 in
theorem ggX8_apply_X8_isSheet : GoodIn wsX8_apply wsX8_isSheet := goodIn_r _ [7, 8, 9, 6, 10] (by decide +kernel) (by decide +kernel)
set_option maxRecDepth 20000 in
theorem gX8_apply_X8_isSheet : GoodIn wsX8_apply (va_wsS RX8 158 yX8_isSheet wsX8_isSheet) := goodIn_app (goodIn_of _ (by decide +kernel)) ggX8_apply_X8_isSheet
set_option maxRecDepth 20000 in
theorem ggX8_apply_X8_in : GoodIn wsX8_apply wsX8_in := goodIn_r _ [10] (by decide +kernel) (by decide +kernel)
set_option maxRecDepth 20000 in
theorem gX8_apply_X8_in : GoodIn wsX8_apply (va_wsS RX8 42 yX8_in wsX8_in) := goodIn_app (goodIn_of _ (by decide +kernel)) ggX8_apply_X8_in
set_option maxRecDepth 20000 in
theorem ggX8_apply_X8_asked : GoodIn wsX8_apply wsX8_asked := goodIn_r _ [14, 15, 16, 17, 18, 6, 19, 8, 9, 10, 20, 21, 22, 23, 24, 25, 26, 74, 75, 76, 77, 78, 79, 80, 81, 82, 83, 84, 85, 86] (by decide +kernel) (by decide +kernel)
set_option maxRecDepth 20000 in
theorem gX8_apply_X8_asked : GoodIn wsX8_apply (wsV RX8 92 RX8 yX8_asked wsX8_asked) := goodIn_app (goodIn_of _ (by decide +kernel)) ggX8_apply_X8_asked
set_option maxRecDepth 20000 in
theorem ggX8_apply_X8_isApplied : GoodIn wsX8_apply wsX8_isApplied := goodIn_r _ [30, 31, 32, 33, 34, 35, 6, 36, 15, 37, 38, 39, 40, 41, 42, 43, 44, 45, 46, 47, 48, 49, 50, 51, 52, 53, 20, 21, 22, 23, 8, 9, 10, 24, 25, 26, 54, 55, 56, 57, 58, 59, 60, 61, 62, 63, 64, 65, 66, 67, 68, 69, 70, 71, 72, 73, 74, 75, 76, 77, 78, 79, 80, 81, 82, 83, 84, 85, 86] (by decide +kernel) (by decide +kernel)
set_option maxRecDepth 20000 in
theorem gX8_apply_X8_isApplied : GoodIn wsX8_apply (wsV RX8 169 RX8 yX8_isApplied wsX8_isApplied) := goodIn_app (goodIn_of _ (by decide +kernel)) ggX8_apply_X8_isApplied
theorem dX8_apply_0 : decode cX8_apply 0 = .ok (.iload_n 2, 1) := by decide +kernel
theorem dX8_apply_1 : decode cX8_apply 1 = .ok (.invokestatic 158, 3) := by decide +kernel
theorem dX8_apply_4 : decode cX8_apply 4 = .ok (.ifCond .eq 12, 3) := by decide +kernel
theorem dX8_apply_7 : decode cX8_apply 7 = .ok (.iload_n 3, 1) := by decide +kernel
theorem dX8_apply_8 : decode cX8_apply 8 = .ok (.iconst 0, 1) := by decide +kernel
theorem dX8_apply_9 : decode cX8_apply 9 = .ok (.iconst 1, 1) := by decide +kernel
theorem dX8_apply_10 : decode cX8_apply 10 = .ok (.invokestatic 42, 3) := by decide +kernel
theorem dX8_apply_13 : decode cX8_apply 13 = .ok (.ifCond .ne 6, 3) := by decide +kernel
theorem dX8_apply_16 : decode cX8_apply 16 = .ok (.bipush (-2), 2) := by decide +kernel
theorem dX8_apply_18 : decode cX8_apply 18 = .ok (.ireturn, 1) := by decide +kernel
theorem dX8_apply_19 : decode cX8_apply 19 = .ok (.aload_n 0, 1) := by decide +kernel
theorem dX8_apply_20 : decode cX8_apply 20 = .ok (.iload_n 1, 1) := by decide +kernel
theorem dX8_apply_21 : decode cX8_apply 21 = .ok (.iconst 0, 1) := by decide +kernel
theorem dX8_apply_22 : decode cX8_apply 22 = .ok (.invokevirtual 92, 3) := by decide +kernel
theorem dX8_apply_25 : decode cX8_apply 25 = .ok (.istore 4, 2) := by decide +kernel
theorem dX8_apply_27 : decode cX8_apply 27 = .ok (.iload 4, 2) := by decide +kernel
theorem dX8_apply_29 : decode cX8_apply 29 = .ok (.ifCond .eq 6, 3) := by decide +kernel
theorem dX8_apply_32 : decode cX8_apply 32 = .ok (.iload 4, 2) := by decide +kernel
theorem dX8_apply_34 : decode cX8_apply 34 = .ok (.ireturn, 1) := by decide +kernel
theorem dX8_apply_35 : decode cX8_apply 35 = .ok (.aload_n 0, 1) := by decide +kernel
theorem dX8_apply_36 : decode cX8_apply 36 = .ok (.getfield 28, 3) := by decide +kernel
theorem dX8_apply_39 : decode cX8_apply 39 = .ok (.iload_n 2, 1) := by decide +kernel
theorem dX8_apply_40 : decode cX8_apply 40 = .ok (.iaload, 1) := by decide +kernel
theorem dX8_apply_41 : decode cX8_apply 41 = .ok (.iconst (-1), 1) := by decide +kernel
theorem dX8_apply_42 : decode cX8_apply 42 = .ok (.if_icmp .eq 16, 3) := by decide +kernel
theorem dX8_apply_45 : decode cX8_apply 45 = .ok (.aload_n 0, 1) := by decide +kernel
theorem dX8_apply_46 : decode cX8_apply 46 = .ok (.getfield 28, 3) := by decide +kernel
theorem dX8_apply_49 : decode cX8_apply 49 = .ok (.iload_n 2, 1) := by decide +kernel
theorem dX8_apply_50 : decode cX8_apply 50 = .ok (.iaload, 1) := by decide +kernel
theorem dX8_apply_51 : decode cX8_apply 51 = .ok (.iload_n 3, 1) := by decide +kernel
theorem dX8_apply_52 : decode cX8_apply 52 = .ok (.if_icmp .eq 6, 3) := by decide +kernel
theorem dX8_apply_55 : decode cX8_apply 55 = .ok (.bipush (-13), 2) := by decide +kernel
theorem dX8_apply_57 : decode cX8_apply 57 = .ok (.ireturn, 1) := by decide +kernel
theorem dX8_apply_58 : decode cX8_apply 58 = .ok (.aload_n 0, 1) := by decide +kernel
theorem dX8_apply_59 : decode cX8_apply 59 = .ok (.getfield 28, 3) := by decide +kernel
theorem dX8_apply_62 : decode cX8_apply 62 = .ok (.iload_n 2, 1) := by decide +kernel
theorem dX8_apply_63 : decode cX8_apply 63 = .ok (.iaload, 1) := by decide +kernel
theorem dX8_apply_64 : decode cX8_apply 64 = .ok (.iconst (-1), 1) := by decide +kernel
theorem dX8_apply_65 : decode cX8_apply 65 = .ok (.if_icmp .ne 6, 3) := by decide +kernel
theorem dX8_apply_68 : decode cX8_apply 68 = .ok (.bipush (-11), 2) := by decide +kernel
theorem dX8_apply_70 : decode cX8_apply 70 = .ok (.ireturn, 1) := by decide +kernel
theorem dX8_apply_71 : decode cX8_apply 71 = .ok (.iconst 0, 1) := by decide +kernel
theorem dX8_apply_72 : decode cX8_apply 72 = .ok (.istore 5, 2) := by decide +kernel
theorem dX8_apply_74 : decode cX8_apply 74 = .ok (.iconst 0, 1) := by decide +kernel
theorem dX8_apply_75 : decode cX8_apply 75 = .ok (.istore 6, 2) := by decide +kernel
theorem dX8_apply_77 : decode cX8_apply 77 = .ok (.iload 6, 2) := by decide +kernel
theorem dX8_apply_79 : decode cX8_apply 79 = .ok (.iconst 1, 1) := by decide +kernel
theorem dX8_apply_80 : decode cX8_apply 80 = .ok (.iadd, 1) := by decide +kernel
theorem dX8_apply_81 : decode cX8_apply 81 = .ok (.aload_n 0, 1) := by decide +kernel
theorem dX8_apply_82 : decode cX8_apply 82 = .ok (.getfield 31, 3) := by decide +kernel
theorem dX8_apply_85 : decode cX8_apply 85 = .ok (.iload_n 2, 1) := by decide +kernel
theorem dX8_apply_86 : decode cX8_apply 86 = .ok (.iaload, 1) := by decide +kernel
theorem dX8_apply_87 : decode cX8_apply 87 = .ok (.if_icmp .ge 53, 3) := by decide +kernel
theorem dX8_apply_90 : decode cX8_apply 90 = .ok (.iload 5, 2) := by decide +kernel
theorem dX8_apply_92 : decode cX8_apply 92 = .ok (.aload_n 0, 1) := by decide +kernel
theorem dX8_apply_93 : decode cX8_apply 93 = .ok (.iload_n 1, 1) := by decide +kernel
theorem dX8_apply_94 : decode cX8_apply 94 = .ok (.aload_n 0, 1) := by decide +kernel
theorem dX8_apply_95 : decode cX8_apply 95 = .ok (.getfield 34, 3) := by decide +kernel
theorem dX8_apply_98 : decode cX8_apply 98 = .ok (.bipush 40, 2) := by decide +kernel
theorem dX8_apply_100 : decode cX8_apply 100 = .ok (.iload_n 2, 1) := by decide +kernel
theorem dX8_apply_101 : decode cX8_apply 101 = .ok (.imul, 1) := by decide +kernel
theorem dX8_apply_102 : decode cX8_apply 102 = .ok (.iload 6, 2) := by decide +kernel
theorem dX8_apply_104 : decode cX8_apply 104 = .ok (.iadd, 1) := by decide +kernel
theorem dX8_apply_105 : decode cX8_apply 105 = .ok (.laload, 1) := by decide +kernel
theorem dX8_apply_106 : decode cX8_apply 106 = .ok (.aload_n 0, 1) := by decide +kernel
theorem dX8_apply_107 : decode cX8_apply 107 = .ok (.getfield 34, 3) := by decide +kernel
theorem dX8_apply_110 : decode cX8_apply 110 = .ok (.bipush 40, 2) := by decide +kernel
theorem dX8_apply_112 : decode cX8_apply 112 = .ok (.iload_n 2, 1) := by decide +kernel
theorem dX8_apply_113 : decode cX8_apply 113 = .ok (.imul, 1) := by decide +kernel
theorem dX8_apply_114 : decode cX8_apply 114 = .ok (.iload 6, 2) := by decide +kernel
theorem dX8_apply_116 : decode cX8_apply 116 = .ok (.iadd, 1) := by decide +kernel
theorem dX8_apply_117 : decode cX8_apply 117 = .ok (.iconst 1, 1) := by decide +kernel
theorem dX8_apply_118 : decode cX8_apply 118 = .ok (.iadd, 1) := by decide +kernel
theorem dX8_apply_119 : decode cX8_apply 119 = .ok (.laload, 1) := by decide +kernel
theorem dX8_apply_120 : decode cX8_apply 120 = .ok (.invokevirtual 169, 3) := by decide +kernel
theorem dX8_apply_123 : decode cX8_apply 123 = .ok (.ifCond .eq 7, 3) := by decide +kernel
theorem dX8_apply_126 : decode cX8_apply 126 = .ok (.iconst 1, 1) := by decide +kernel
theorem dX8_apply_127 : decode cX8_apply 127 = .ok (.goto 4, 3) := by decide +kernel
theorem dX8_apply_130 : decode cX8_apply 130 = .ok (.iconst 0, 1) := by decide +kernel
theorem dX8_apply_131 : decode cX8_apply 131 = .ok (.iadd, 1) := by decide +kernel
theorem dX8_apply_132 : decode cX8_apply 132 = .ok (.istore 5, 2) := by decide +kernel
theorem dX8_apply_134 : decode cX8_apply 134 = .ok (.iinc 6 2, 3) := by decide +kernel
theorem dX8_apply_137 : decode cX8_apply 137 = .ok (.goto (-60), 3) := by decide +kernel
theorem dX8_apply_140 : decode cX8_apply 140 = .ok (.aload_n 0, 1) := by decide +kernel
theorem dX8_apply_141 : decode cX8_apply 141 = .ok (.getfield 31, 3) := by decide +kernel
theorem dX8_apply_144 : decode cX8_apply 144 = .ok (.iload_n 2, 1) := by decide +kernel
theorem dX8_apply_145 : decode cX8_apply 145 = .ok (.iaload, 1) := by decide +kernel
theorem dX8_apply_146 : decode cX8_apply 146 = .ok (.iconst 2, 1) := by decide +kernel
theorem dX8_apply_147 : decode cX8_apply 147 = .ok (.irem, 1) := by decide +kernel
theorem dX8_apply_148 : decode cX8_apply 148 = .ok (.iconst 1, 1) := by decide +kernel
theorem dX8_apply_149 : decode cX8_apply 149 = .ok (.if_icmp .ne 8, 3) := by decide +kernel
theorem dX8_apply_152 : decode cX8_apply 152 = .ok (.bipush (-12), 2) := by decide +kernel
theorem dX8_apply_154 : decode cX8_apply 154 = .ok (.goto 5, 3) := by decide +kernel
theorem dX8_apply_157 : decode cX8_apply 157 = .ok (.iload 5, 2) := by decide +kernel
theorem dX8_apply_159 : decode cX8_apply 159 = .ok (.ireturn, 1) := by decide +kernel
theorem dX8_lots_0 : decode cX8_lots 0 = .ok (.aload_n 0, 1) := by decide +kernel
theorem dX8_lots_1 : decode cX8_lots 1 = .ok (.aload_n 0, 1) := by decide +kernel
theorem dX8_lots_2 : decode cX8_lots 2 = .ok (.getfield 173, 3) := by decide +kernel
theorem dX8_lots_5 : decode cX8_lots 5 = .ok (.ldc 176, 2) := by decide +kernel
theorem dX8_lots_7 : decode cX8_lots 7 = .ok (.imul, 1) := by decide +kernel
theorem dX8_lots_8 : decode cX8_lots 8 = .ok (.sipush 12345, 3) := by decide +kernel
theorem dX8_lots_11 : decode cX8_lots 11 = .ok (.iadd, 1) := by decide +kernel
theorem dX8_lots_12 : decode cX8_lots 12 = .ok (.putfield 173, 3) := by decide +kernel
theorem dX8_lots_15 : decode cX8_lots 15 = .ok (.aload_n 0, 1) := by decide +kernel
theorem dX8_lots_16 : decode cX8_lots 16 = .ok (.getfield 173, 3) := by decide +kernel
theorem dX8_lots_19 : decode cX8_lots 19 = .ok (.bipush 9, 2) := by decide +kernel
theorem dX8_lots_21 : decode cX8_lots 21 = .ok (.iushr, 1) := by decide +kernel
theorem dX8_lots_22 : decode cX8_lots 22 = .ok (.bipush 24, 2) := by decide +kernel
theorem dX8_lots_24 : decode cX8_lots 24 = .ok (.irem, 1) := by decide +kernel
theorem dX8_lots_25 : decode cX8_lots 25 = .ok (.ireturn, 1) := by decide +kernel
set_option maxRecDepth 20000 in
theorem ggX8_draws_X8_write : GoodIn wsX8_draws wsX8_write := goodIn_r _ [5, 6, 7, 8, 4, 9, 10, 11, 12, 13, 14, 15, 16, 17, 18, 19, 20, 21, 22, 23, 24, 25, 26, 27, 28, 29, 30, 31, 32, 33, 34, 35, 36, 37, 38, 39, 40, 41, 42, 43, 44, 45, 46, 47, 48, 49, 50, 51, 52, 53, 54, 55, 56, 57, 58, 59, 60, 61, 62, 123, 124, 125, 126, 127, 128, 129, 130, 131, 132, 133, 134, 135] (by decide +kernel) (by decide +kernel)
set_option maxRecDepth 20000 in
theorem gX8_draws_X8_write : GoodIn wsX8_draws (wsV RX8 177 RX8 yX8_write wsX8_write) := goodIn_app (goodIn_of _ (by decide +kernel)) ggX8_draws_X8_write
set_option maxRecDepth 20000 in
theorem ggX8_draws_X8_erase : GoodIn wsX8_draws wsX8_erase := goodIn_r _ [66, 7, 8, 4, 9, 10, 11, 12, 13, 14, 15, 16, 17, 18, 19, 20, 21, 22, 23, 24, 25, 67, 68, 69, 70, 42, 43, 44, 45, 46, 47, 48, 49, 50, 51, 52, 53, 54, 55, 56, 57, 58, 59, 60, 61, 62, 123, 124, 125, 126, 127, 128, 129, 130, 131, 132, 133, 134, 135] (by decide +kernel) (by decide +kernel)
set_option maxRecDepth 20000 in
theorem gX8_draws_X8_erase : GoodIn wsX8_draws (wsV RX8 180 RX8 yX8_erase wsX8_erase) := goodIn_app (goodIn_of _ (by decide +kernel)) ggX8_draws_X8_erase
set_option maxRecDepth 20000 in
theorem ggX8_draws_X8_snap : GoodIn wsX8_draws wsX8_snap := goodIn_r _ [74, 14, 7, 8, 4, 9, 10, 11, 12, 13, 15, 16, 17, 18, 19, 20, 21, 22, 23, 24, 25, 75, 76, 77, 78, 79, 80, 81, 82, 83, 84, 85, 86, 123, 124, 125, 126, 127, 128, 129, 130, 131, 132, 133, 134, 135] (by decide +kernel) (by decide +kernel)
set_option maxRecDepth 20000 in
theorem gX8_draws_X8_snap : GoodIn wsX8_draws (wsV RX8 183 RX8 yX8_snap wsX8_snap) := goodIn_app (goodIn_of _ (by decide +kernel)) ggX8_draws_X8_snap
set_option maxRecDepth 20000 in
theorem ggX8_draws_X8_remove : GoodIn wsX8_draws wsX8_remove := goodIn_r _ [90, 14, 15, 16, 17, 4, 18, 7, 8, 9, 19, 20, 21, 22, 59, 60, 61, 62, 23, 24, 25, 91, 92, 93, 94, 51, 52, 53, 54, 55, 56, 57, 58, 95, 96, 97, 98, 99, 100, 101, 102, 42, 43, 44, 45, 46, 47, 48, 49, 50, 123, 124, 125, 126, 127, 128, 129, 130, 131, 132, 133, 134, 135] (by decide +kernel) (by decide +kernel)
set_option maxRecDepth 20000 in
theorem gX8_draws_X8_remove : GoodIn wsX8_draws (wsV RX8 186 RX8 yX8_remove wsX8_remove) := goodIn_app (goodIn_of _ (by decide +kernel)) ggX8_draws_X8_remove
set_option maxRecDepth 20000 in
theorem ggX8_draws_X8_fork : GoodIn wsX8_draws wsX8_fork := goodIn_r _ [106, 14, 10, 11, 12, 4, 13, 15, 16, 17, 18, 7, 8, 9, 19, 20, 21, 22, 23, 24, 25, 75, 76, 77, 78, 79, 80, 81, 82, 83, 84, 85, 86, 123, 124, 125, 126, 127, 128, 129, 130, 131, 132, 133, 134, 135] (by decide +kernel) (by decide +kernel)
set_option maxRecDepth 20000 in
theorem gX8_draws_X8_fork : GoodIn wsX8_draws (wsV RX8 189 RX8 yX8_fork wsX8_fork) := goodIn_app (goodIn_of _ (by decide +kernel)) ggX8_draws_X8_fork
set_option maxRecDepth 20000 in
theorem ggX8_draws_X8_promote : GoodIn wsX8_draws wsX8_promote := goodIn_r _ [110, 14, 10, 11, 12, 4, 13, 15, 16, 17, 18, 7, 8, 9, 19, 20, 21, 22, 23, 24, 25, 111, 112, 113, 114, 123, 124, 125, 126, 127, 128, 129, 130, 131, 132, 133, 134, 135] (by decide +kernel) (by decide +kernel)
set_option maxRecDepth 20000 in
theorem gX8_draws_X8_promote : GoodIn wsX8_draws (wsV RX8 192 RX8 yX8_promote wsX8_promote) := goodIn_app (goodIn_of _ (by decide +kernel)) ggX8_draws_X8_promote
set_option maxRecDepth 20000 in
theorem ggX8_draws_X8_rollback : GoodIn wsX8_draws wsX8_rollback := goodIn_r _ [118, 14, 10, 11, 12, 4, 13, 15, 16, 17, 18, 7, 8, 9, 19, 20, 21, 22, 23, 24, 25, 83, 84, 85, 86, 42, 43, 44, 45, 46, 47, 48, 49, 50, 51, 52, 53, 54, 55, 56, 57, 58, 59, 60, 61, 62, 123, 124, 125, 126, 127, 128, 129, 130, 131, 132, 133, 134, 135] (by decide +kernel) (by decide +kernel)
set_option maxRecDepth 20000 in
theorem gX8_draws_X8_rollback : GoodIn wsX8_draws (wsV RX8 195 RX8 yX8_rollback wsX8_rollback) := goodIn_app (goodIn_of _ (by decide +kernel)) ggX8_draws_X8_rollback
set_option maxRecDepth 20000 in
theorem ggX8_draws_X8_files : GoodIn wsX8_draws wsX8_files := goodIn_r _ [122, 6, 14, 7, 8, 4, 9, 75, 76, 77, 78, 79, 80, 81, 82, 123, 124, 125, 126, 127, 128, 129, 130, 131, 132, 133, 134, 135] (by decide +kernel) (by decide +kernel)
set_option maxRecDepth 20000 in
theorem gX8_draws_X8_files : GoodIn wsX8_draws (wsV RX8 198 RX8 yX8_files wsX8_files) := goodIn_app (goodIn_of _ (by decide +kernel)) ggX8_draws_X8_files
theorem dX8_draws_0 : decode cX8_draws 0 = .ok (.iload_n 2, 1) := by decide +kernel
theorem dX8_draws_1 : decode cX8_draws 1 = .ok (.bipush 20, 2) := by decide +kernel
theorem dX8_draws_3 : decode cX8_draws 3 = .ok (.irem, 1) := by decide +kernel
theorem dX8_draws_4 : decode cX8_draws 4 = .ok (.istore 4, 2) := by decide +kernel
theorem dX8_draws_6 : decode cX8_draws 6 = .ok (.iload_n 1, 1) := by decide +kernel
theorem dX8_draws_7 : decode cX8_draws 7 = .ok (.bipush 8, 2) := by decide +kernel
theorem dX8_draws_9 : decode cX8_draws 9 = .ok (.if_icmp .ge 20, 3) := by decide +kernel
theorem dX8_draws_12 : decode cX8_draws 12 = .ok (.aload_n 0, 1) := by decide +kernel
theorem dX8_draws_13 : decode cX8_draws 13 = .ok (.iload 4, 2) := by decide +kernel
theorem dX8_draws_15 : decode cX8_draws 15 = .ok (.iload_n 3, 1) := by decide +kernel
theorem dX8_draws_16 : decode cX8_draws 16 = .ok (.bipush 12, 2) := by decide +kernel
theorem dX8_draws_18 : decode cX8_draws 18 = .ok (.irem, 1) := by decide +kernel
theorem dX8_draws_19 : decode cX8_draws 19 = .ok (.iconst 1, 1) := by decide +kernel
theorem dX8_draws_20 : decode cX8_draws 20 = .ok (.iload_n 2, 1) := by decide +kernel
theorem dX8_draws_21 : decode cX8_draws 21 = .ok (.iadd, 1) := by decide +kernel
theorem dX8_draws_22 : decode cX8_draws 22 = .ok (.invokevirtual 177, 3) := by decide +kernel
theorem dX8_draws_25 : decode cX8_draws 25 = .ok (.pop, 1) := by decide +kernel
theorem dX8_draws_26 : decode cX8_draws 26 = .ok (.goto 113, 3) := by decide +kernel
theorem dX8_draws_29 : decode cX8_draws 29 = .ok (.iload_n 1, 1) := by decide +kernel
theorem dX8_draws_30 : decode cX8_draws 30 = .ok (.bipush 11, 2) := by decide +kernel
theorem dX8_draws_32 : decode cX8_draws 32 = .ok (.if_icmp .ge 17, 3) := by decide +kernel
theorem dX8_draws_35 : decode cX8_draws 35 = .ok (.aload_n 0, 1) := by decide +kernel
theorem dX8_draws_36 : decode cX8_draws 36 = .ok (.iload 4, 2) := by decide +kernel
theorem dX8_draws_38 : decode cX8_draws 38 = .ok (.iload_n 3, 1) := by decide +kernel
theorem dX8_draws_39 : decode cX8_draws 39 = .ok (.bipush 12, 2) := by decide +kernel
theorem dX8_draws_41 : decode cX8_draws 41 = .ok (.irem, 1) := by decide +kernel
theorem dX8_draws_42 : decode cX8_draws 42 = .ok (.invokevirtual 180, 3) := by decide +kernel
theorem dX8_draws_45 : decode cX8_draws 45 = .ok (.pop, 1) := by decide +kernel
theorem dX8_draws_46 : decode cX8_draws 46 = .ok (.goto 93, 3) := by decide +kernel
theorem dX8_draws_49 : decode cX8_draws 49 = .ok (.iload_n 1, 1) := by decide +kernel
theorem dX8_draws_50 : decode cX8_draws 50 = .ok (.bipush 15, 2) := by decide +kernel
theorem dX8_draws_52 : decode cX8_draws 52 = .ok (.if_icmp .ge 17, 3) := by decide +kernel
theorem dX8_draws_55 : decode cX8_draws 55 = .ok (.aload_n 0, 1) := by decide +kernel
theorem dX8_draws_56 : decode cX8_draws 56 = .ok (.iload 4, 2) := by decide +kernel
theorem dX8_draws_58 : decode cX8_draws 58 = .ok (.iload_n 3, 1) := by decide +kernel
theorem dX8_draws_59 : decode cX8_draws 59 = .ok (.bipush 20, 2) := by decide +kernel
theorem dX8_draws_61 : decode cX8_draws 61 = .ok (.idiv, 1) := by decide +kernel
theorem dX8_draws_62 : decode cX8_draws 62 = .ok (.invokevirtual 183, 3) := by decide +kernel
theorem dX8_draws_65 : decode cX8_draws 65 = .ok (.pop, 1) := by decide +kernel
theorem dX8_draws_66 : decode cX8_draws 66 = .ok (.goto 73, 3) := by decide +kernel
theorem dX8_draws_69 : decode cX8_draws 69 = .ok (.iload_n 1, 1) := by decide +kernel
theorem dX8_draws_70 : decode cX8_draws 70 = .ok (.bipush 19, 2) := by decide +kernel
theorem dX8_draws_72 : decode cX8_draws 72 = .ok (.if_icmp .ge 13, 3) := by decide +kernel
theorem dX8_draws_75 : decode cX8_draws 75 = .ok (.aload_n 0, 1) := by decide +kernel
theorem dX8_draws_76 : decode cX8_draws 76 = .ok (.iload 4, 2) := by decide +kernel
theorem dX8_draws_78 : decode cX8_draws 78 = .ok (.invokevirtual 186, 3) := by decide +kernel
theorem dX8_draws_81 : decode cX8_draws 81 = .ok (.pop, 1) := by decide +kernel
theorem dX8_draws_82 : decode cX8_draws 82 = .ok (.goto 57, 3) := by decide +kernel
theorem dX8_draws_85 : decode cX8_draws 85 = .ok (.iload_n 1, 1) := by decide +kernel
theorem dX8_draws_86 : decode cX8_draws 86 = .ok (.bipush 21, 2) := by decide +kernel
theorem dX8_draws_88 : decode cX8_draws 88 = .ok (.if_icmp .ge 13, 3) := by decide +kernel
theorem dX8_draws_91 : decode cX8_draws 91 = .ok (.aload_n 0, 1) := by decide +kernel
theorem dX8_draws_92 : decode cX8_draws 92 = .ok (.iload 4, 2) := by decide +kernel
theorem dX8_draws_94 : decode cX8_draws 94 = .ok (.invokevirtual 189, 3) := by decide +kernel
theorem dX8_draws_97 : decode cX8_draws 97 = .ok (.pop, 1) := by decide +kernel
theorem dX8_draws_98 : decode cX8_draws 98 = .ok (.goto 41, 3) := by decide +kernel
theorem dX8_draws_101 : decode cX8_draws 101 = .ok (.iload_n 1, 1) := by decide +kernel
theorem dX8_draws_102 : decode cX8_draws 102 = .ok (.bipush 21, 2) := by decide +kernel
theorem dX8_draws_104 : decode cX8_draws 104 = .ok (.if_icmp .ne 13, 3) := by decide +kernel
theorem dX8_draws_107 : decode cX8_draws 107 = .ok (.aload_n 0, 1) := by decide +kernel
theorem dX8_draws_108 : decode cX8_draws 108 = .ok (.iload 4, 2) := by decide +kernel
theorem dX8_draws_110 : decode cX8_draws 110 = .ok (.invokevirtual 192, 3) := by decide +kernel
theorem dX8_draws_113 : decode cX8_draws 113 = .ok (.pop, 1) := by decide +kernel
theorem dX8_draws_114 : decode cX8_draws 114 = .ok (.goto 25, 3) := by decide +kernel
theorem dX8_draws_117 : decode cX8_draws 117 = .ok (.iload_n 1, 1) := by decide +kernel
theorem dX8_draws_118 : decode cX8_draws 118 = .ok (.bipush 22, 2) := by decide +kernel
theorem dX8_draws_120 : decode cX8_draws 120 = .ok (.if_icmp .ne 13, 3) := by decide +kernel
theorem dX8_draws_123 : decode cX8_draws 123 = .ok (.aload_n 0, 1) := by decide +kernel
theorem dX8_draws_124 : decode cX8_draws 124 = .ok (.iload 4, 2) := by decide +kernel
theorem dX8_draws_126 : decode cX8_draws 126 = .ok (.invokevirtual 195, 3) := by decide +kernel
theorem dX8_draws_129 : decode cX8_draws 129 = .ok (.pop, 1) := by decide +kernel
theorem dX8_draws_130 : decode cX8_draws 130 = .ok (.goto 9, 3) := by decide +kernel
theorem dX8_draws_133 : decode cX8_draws 133 = .ok (.aload_n 0, 1) := by decide +kernel
theorem dX8_draws_134 : decode cX8_draws 134 = .ok (.iconst (-1), 1) := by decide +kernel
theorem dX8_draws_135 : decode cX8_draws 135 = .ok (.invokevirtual 198, 3) := by decide +kernel
theorem dX8_draws_138 : decode cX8_draws 138 = .ok (.pop, 1) := by decide +kernel
theorem dX8_draws_139 : decode cX8_draws 139 = .ok (.return_, 1) := by decide +kernel
set_option maxRecDepth 20000 in
theorem ggX8_things_X8_isThing : GoodIn wsX8_things wsX8_isThing := goodIn_r _ [5, 6, 7, 8, 4, 9, 10, 11, 12, 13, 14, 15, 16, 17, 18, 19, 20, 21, 22] (by decide +kernel) (by decide +kernel)
set_option maxRecDepth 20000 in
theorem gX8_things_X8_isThing : GoodIn wsX8_things (wsV RX8 46 RX8 yX8_isThing wsX8_isThing) := goodIn_app (goodIn_of _ (by decide +kernel)) ggX8_things_X8_isThing
theorem dX8_things_0 : decode cX8_things 0 = .ok (.iconst 0, 1) := by decide +kernel
theorem dX8_things_1 : decode cX8_things 1 = .ok (.istore_n 1, 1) := by decide +kernel
theorem dX8_things_2 : decode cX8_things 2 = .ok (.iconst 0, 1) := by decide +kernel
theorem dX8_things_3 : decode cX8_things 3 = .ok (.istore_n 2, 1) := by decide +kernel
theorem dX8_things_4 : decode cX8_things 4 = .ok (.iload_n 2, 1) := by decide +kernel
theorem dX8_things_5 : decode cX8_things 5 = .ok (.bipush 20, 2) := by decide +kernel
theorem dX8_things_7 : decode cX8_things 7 = .ok (.if_icmp .ge 25, 3) := by decide +kernel
theorem dX8_things_10 : decode cX8_things 10 = .ok (.iload_n 1, 1) := by decide +kernel
theorem dX8_things_11 : decode cX8_things 11 = .ok (.aload_n 0, 1) := by decide +kernel
theorem dX8_things_12 : decode cX8_things 12 = .ok (.iload_n 2, 1) := by decide +kernel
theorem dX8_things_13 : decode cX8_things 13 = .ok (.invokevirtual 46, 3) := by decide +kernel
theorem dX8_things_16 : decode cX8_things 16 = .ok (.ifCond .eq 7, 3) := by decide +kernel
theorem dX8_things_19 : decode cX8_things 19 = .ok (.iconst 1, 1) := by decide +kernel
theorem dX8_things_20 : decode cX8_things 20 = .ok (.goto 4, 3) := by decide +kernel
theorem dX8_things_23 : decode cX8_things 23 = .ok (.iconst 0, 1) := by decide +kernel
theorem dX8_things_24 : decode cX8_things 24 = .ok (.iadd, 1) := by decide +kernel
theorem dX8_things_25 : decode cX8_things 25 = .ok (.istore_n 1, 1) := by decide +kernel
theorem dX8_things_26 : decode cX8_things 26 = .ok (.iinc 2 1, 3) := by decide +kernel
theorem dX8_things_29 : decode cX8_things 29 = .ok (.goto (-25), 3) := by decide +kernel
theorem dX8_things_32 : decode cX8_things 32 = .ok (.iload_n 1, 1) := by decide +kernel
theorem dX8_things_33 : decode cX8_things 33 = .ok (.ireturn, 1) := by decide +kernel
set_option maxRecDepth 20000 in
theorem ggX8_drawn_X8_in : GoodIn wsX8_drawn wsX8_in := goodIn_r _ [8] (by decide +kernel) (by decide +kernel)
set_option maxRecDepth 20000 in
theorem gX8_drawn_X8_in : GoodIn wsX8_drawn (va_wsS RX8 42 yX8_in wsX8_in) := goodIn_app (goodIn_of _ (by decide +kernel)) ggX8_drawn_X8_in
set_option maxRecDepth 20000 in
theorem ggX8_drawn_X8_lots : GoodIn wsX8_drawn wsX8_lots := goodIn_r _ [12, 4, 13, 143, 144, 145, 146, 147, 148, 149, 150, 151, 152, 153, 154, 155] (by decide +kernel) (by decide +kernel)
set_option maxRecDepth 20000 in
theorem gX8_drawn_X8_lots : GoodIn wsX8_drawn (wsV RX8 201 RX8 yX8_lots wsX8_lots) := goodIn_app (goodIn_of _ (by decide +kernel)) ggX8_drawn_X8_lots
set_option maxRecDepth 20000 in
theorem ggX8_drawn_X8_draws : GoodIn wsX8_drawn wsX8_draws := goodIn_r _ [17, 18, 19, 20, 7, 21, 22, 5, 6, 8, 23, 24, 25, 26, 3, 27, 28, 29, 30, 31, 32, 33, 34, 35, 36, 37, 38, 39, 40, 41, 42, 43, 44, 45, 46, 47, 48, 49, 50, 51, 52, 53, 54, 55, 56, 57, 58, 59, 60, 61, 62, 63, 64, 65, 66, 67, 68, 69, 70, 71, 72, 73, 74, 75, 76, 77, 78, 79, 80, 81, 82, 83, 84, 85, 86, 87, 88, 89, 90, 91, 92, 93, 94, 95, 96, 97, 98, 99, 100, 101, 102, 103, 104, 105, 106, 107, 108, 109, 110, 111, 112, 113, 114, 115, 116, 117, 118, 119, 120, 121, 122, 123, 124, 125, 126, 127, 128, 129, 130, 131, 132, 133, 134, 143, 144, 145, 146, 147, 148, 149, 150, 151, 152, 153, 154, 155] (by decide +kernel) (by decide +kernel)
set_option maxRecDepth 20000 in
theorem gX8_drawn_X8_draws : GoodIn wsX8_drawn (wsV RX8 204 RX8 yX8_draws wsX8_draws) := goodIn_app (goodIn_of _ (by decide +kernel)) ggX8_drawn_X8_draws
set_option maxRecDepth 20000 in
theorem ggX8_drawn_X8_things : GoodIn wsX8_drawn wsX8_things := goodIn_r _ [138, 31, 32, 33, 7, 34, 3, 5, 6, 8, 143, 144, 145, 146, 147, 148, 149, 150, 151, 152, 153, 154, 155] (by decide +kernel) (by decide +kernel)
set_option maxRecDepth 20000 in
theorem gX8_drawn_X8_things : GoodIn wsX8_drawn (wsV RX8 207 RX8 yX8_things wsX8_things) := goodIn_app (goodIn_of _ (by decide +kernel)) ggX8_drawn_X8_things
set_option maxRecDepth 20000 in
theorem ggX8_drawn_X8_blocks : GoodIn wsX8_drawn wsX8_blocks := goodIn_r _ [142, 3, 143, 144, 145, 146, 147, 148, 149, 150, 151, 152, 153, 154, 155] (by decide +kernel) (by decide +kernel)
set_option maxRecDepth 20000 in
theorem gX8_drawn_X8_blocks : GoodIn wsX8_drawn (wsV RX8 210 RX8 yX8_blocks wsX8_blocks) := goodIn_app (goodIn_of _ (by decide +kernel)) ggX8_drawn_X8_blocks
theorem dX8_drawn_0 : decode cX8_drawn 0 = .ok (.iload_n 2, 1) := by decide +kernel
theorem dX8_drawn_1 : decode cX8_drawn 1 = .ok (.iconst 0, 1) := by decide +kernel
theorem dX8_drawn_2 : decode cX8_drawn 2 = .ok (.bipush 60, 2) := by decide +kernel
theorem dX8_drawn_4 : decode cX8_drawn 4 = .ok (.invokestatic 42, 3) := by decide +kernel
theorem dX8_drawn_7 : decode cX8_drawn 7 = .ok (.ifCond .eq 12, 3) := by decide +kernel
theorem dX8_drawn_10 : decode cX8_drawn 10 = .ok (.iload_n 3, 1) := by decide +kernel
theorem dX8_drawn_11 : decode cX8_drawn 11 = .ok (.iconst 0, 1) := by decide +kernel
theorem dX8_drawn_12 : decode cX8_drawn 12 = .ok (.iconst 3, 1) := by decide +kernel
theorem dX8_drawn_13 : decode cX8_drawn 13 = .ok (.invokestatic 42, 3) := by decide +kernel
theorem dX8_drawn_16 : decode cX8_drawn 16 = .ok (.ifCond .ne 7, 3) := by decide +kernel
theorem dX8_drawn_19 : decode cX8_drawn 19 = .ok (.ldc2_w 134, 3) := by decide +kernel
theorem dX8_drawn_22 : decode cX8_drawn 22 = .ok (.lreturn, 1) := by decide +kernel
theorem dX8_drawn_23 : decode cX8_drawn 23 = .ok (.iconst 0, 1) := by decide +kernel
theorem dX8_drawn_24 : decode cX8_drawn 24 = .ok (.istore 4, 2) := by decide +kernel
theorem dX8_drawn_26 : decode cX8_drawn 26 = .ok (.iload 4, 2) := by decide +kernel
theorem dX8_drawn_28 : decode cX8_drawn 28 = .ok (.sipush 554, 3) := by decide +kernel
theorem dX8_drawn_31 : decode cX8_drawn 31 = .ok (.if_icmp .ge 23, 3) := by decide +kernel
theorem dX8_drawn_34 : decode cX8_drawn 34 = .ok (.aload_n 0, 1) := by decide +kernel
theorem dX8_drawn_35 : decode cX8_drawn 35 = .ok (.getfield 16, 3) := by decide +kernel
theorem dX8_drawn_38 : decode cX8_drawn 38 = .ok (.iload 4, 2) := by decide +kernel
theorem dX8_drawn_40 : decode cX8_drawn 40 = .ok (.aload_n 0, 1) := by decide +kernel
theorem dX8_drawn_41 : decode cX8_drawn 41 = .ok (.getfield 7, 3) := by decide +kernel
theorem dX8_drawn_44 : decode cX8_drawn 44 = .ok (.iload 4, 2) := by decide +kernel
theorem dX8_drawn_46 : decode cX8_drawn 46 = .ok (.iaload, 1) := by decide +kernel
theorem dX8_drawn_47 : decode cX8_drawn 47 = .ok (.iastore, 1) := by decide +kernel
theorem dX8_drawn_48 : decode cX8_drawn 48 = .ok (.iinc 4 1, 3) := by decide +kernel
theorem dX8_drawn_51 : decode cX8_drawn 51 = .ok (.goto (-25), 3) := by decide +kernel
theorem dX8_drawn_54 : decode cX8_drawn 54 = .ok (.aload_n 0, 1) := by decide +kernel
theorem dX8_drawn_55 : decode cX8_drawn 55 = .ok (.iload_n 1, 1) := by decide +kernel
theorem dX8_drawn_56 : decode cX8_drawn 56 = .ok (.putfield 173, 3) := by decide +kernel
theorem dX8_drawn_59 : decode cX8_drawn 59 = .ok (.iconst 0, 1) := by decide +kernel
theorem dX8_drawn_60 : decode cX8_drawn 60 = .ok (.istore 4, 2) := by decide +kernel
theorem dX8_drawn_62 : decode cX8_drawn 62 = .ok (.iload 4, 2) := by decide +kernel
theorem dX8_drawn_64 : decode cX8_drawn 64 = .ok (.iload_n 2, 1) := by decide +kernel
theorem dX8_drawn_65 : decode cX8_drawn 65 = .ok (.if_icmp .ge 37, 3) := by decide +kernel
theorem dX8_drawn_68 : decode cX8_drawn 68 = .ok (.aload_n 0, 1) := by decide +kernel
theorem dX8_drawn_69 : decode cX8_drawn 69 = .ok (.invokevirtual 201, 3) := by decide +kernel
theorem dX8_drawn_72 : decode cX8_drawn 72 = .ok (.istore 5, 2) := by decide +kernel
theorem dX8_drawn_74 : decode cX8_drawn 74 = .ok (.aload_n 0, 1) := by decide +kernel
theorem dX8_drawn_75 : decode cX8_drawn 75 = .ok (.invokevirtual 201, 3) := by decide +kernel
theorem dX8_drawn_78 : decode cX8_drawn 78 = .ok (.istore 6, 2) := by decide +kernel
theorem dX8_drawn_80 : decode cX8_drawn 80 = .ok (.aload_n 0, 1) := by decide +kernel
theorem dX8_drawn_81 : decode cX8_drawn 81 = .ok (.invokevirtual 201, 3) := by decide +kernel
theorem dX8_drawn_84 : decode cX8_drawn 84 = .ok (.istore 7, 2) := by decide +kernel
theorem dX8_drawn_86 : decode cX8_drawn 86 = .ok (.aload_n 0, 1) := by decide +kernel
theorem dX8_drawn_87 : decode cX8_drawn 87 = .ok (.iload 5, 2) := by decide +kernel
theorem dX8_drawn_89 : decode cX8_drawn 89 = .ok (.iload 6, 2) := by decide +kernel
theorem dX8_drawn_91 : decode cX8_drawn 91 = .ok (.iload 7, 2) := by decide +kernel
theorem dX8_drawn_93 : decode cX8_drawn 93 = .ok (.invokevirtual 204, 3) := by decide +kernel
theorem dX8_drawn_96 : decode cX8_drawn 96 = .ok (.iinc 4 1, 3) := by decide +kernel
theorem dX8_drawn_99 : decode cX8_drawn 99 = .ok (.goto (-37), 3) := by decide +kernel
theorem dX8_drawn_102 : decode cX8_drawn 102 = .ok (.lconst 0, 1) := by decide +kernel
theorem dX8_drawn_103 : decode cX8_drawn 103 = .ok (.lstore 4, 2) := by decide +kernel
theorem dX8_drawn_105 : decode cX8_drawn 105 = .ok (.iconst 0, 1) := by decide +kernel
theorem dX8_drawn_106 : decode cX8_drawn 106 = .ok (.istore 6, 2) := by decide +kernel
theorem dX8_drawn_108 : decode cX8_drawn 108 = .ok (.iload 6, 2) := by decide +kernel
theorem dX8_drawn_110 : decode cX8_drawn 110 = .ok (.bipush 96, 2) := by decide +kernel
theorem dX8_drawn_112 : decode cX8_drawn 112 = .ok (.if_icmp .ge 26, 3) := by decide +kernel
theorem dX8_drawn_115 : decode cX8_drawn 115 = .ok (.lload 4, 2) := by decide +kernel
theorem dX8_drawn_117 : decode cX8_drawn 117 = .ok (.aload_n 0, 1) := by decide +kernel
theorem dX8_drawn_118 : decode cX8_drawn 118 = .ok (.getfield 7, 3) := by decide +kernel
theorem dX8_drawn_121 : decode cX8_drawn 121 = .ok (.sipush 362, 3) := by decide +kernel
theorem dX8_drawn_124 : decode cX8_drawn 124 = .ok (.iload 6, 2) := by decide +kernel
theorem dX8_drawn_126 : decode cX8_drawn 126 = .ok (.iadd, 1) := by decide +kernel
theorem dX8_drawn_127 : decode cX8_drawn 127 = .ok (.iaload, 1) := by decide +kernel
theorem dX8_drawn_128 : decode cX8_drawn 128 = .ok (.i2l, 1) := by decide +kernel
theorem dX8_drawn_129 : decode cX8_drawn 129 = .ok (.ladd, 1) := by decide +kernel
theorem dX8_drawn_130 : decode cX8_drawn 130 = .ok (.lstore 4, 2) := by decide +kernel
theorem dX8_drawn_132 : decode cX8_drawn 132 = .ok (.iinc 6 1, 3) := by decide +kernel
theorem dX8_drawn_135 : decode cX8_drawn 135 = .ok (.goto (-27), 3) := by decide +kernel
theorem dX8_drawn_138 : decode cX8_drawn 138 = .ok (.iload_n 3, 1) := by decide +kernel
theorem dX8_drawn_139 : decode cX8_drawn 139 = .ok (.ifCond .ne 11, 3) := by decide +kernel
theorem dX8_drawn_142 : decode cX8_drawn 142 = .ok (.aload_n 0, 1) := by decide +kernel
theorem dX8_drawn_143 : decode cX8_drawn 143 = .ok (.invokevirtual 207, 3) := by decide +kernel
theorem dX8_drawn_146 : decode cX8_drawn 146 = .ok (.i2l, 1) := by decide +kernel
theorem dX8_drawn_147 : decode cX8_drawn 147 = .ok (.goto 40, 3) := by decide +kernel
theorem dX8_drawn_150 : decode cX8_drawn 150 = .ok (.iload_n 3, 1) := by decide +kernel
theorem dX8_drawn_151 : decode cX8_drawn 151 = .ok (.iconst 1, 1) := by decide +kernel
theorem dX8_drawn_152 : decode cX8_drawn 152 = .ok (.if_icmp .ne 11, 3) := by decide +kernel
theorem dX8_drawn_155 : decode cX8_drawn 155 = .ok (.aload_n 0, 1) := by decide +kernel
theorem dX8_drawn_156 : decode cX8_drawn 156 = .ok (.invokevirtual 210, 3) := by decide +kernel
theorem dX8_drawn_159 : decode cX8_drawn 159 = .ok (.i2l, 1) := by decide +kernel
theorem dX8_drawn_160 : decode cX8_drawn 160 = .ok (.goto 27, 3) := by decide +kernel
theorem dX8_drawn_163 : decode cX8_drawn 163 = .ok (.iload_n 3, 1) := by decide +kernel
theorem dX8_drawn_164 : decode cX8_drawn 164 = .ok (.iconst 2, 1) := by decide +kernel
theorem dX8_drawn_165 : decode cX8_drawn 165 = .ok (.if_icmp .ne 20, 3) := by decide +kernel
theorem dX8_drawn_168 : decode cX8_drawn 168 = .ok (.aload_n 0, 1) := by decide +kernel
theorem dX8_drawn_169 : decode cX8_drawn 169 = .ok (.getfield 7, 3) := by decide +kernel
theorem dX8_drawn_172 : decode cX8_drawn 172 = .ok (.iconst 1, 1) := by decide +kernel
theorem dX8_drawn_173 : decode cX8_drawn 173 = .ok (.iaload, 1) := by decide +kernel
theorem dX8_drawn_174 : decode cX8_drawn 174 = .ok (.aload_n 0, 1) := by decide +kernel
theorem dX8_drawn_175 : decode cX8_drawn 175 = .ok (.getfield 16, 3) := by decide +kernel
theorem dX8_drawn_178 : decode cX8_drawn 178 = .ok (.iconst 1, 1) := by decide +kernel
theorem dX8_drawn_179 : decode cX8_drawn 179 = .ok (.iaload, 1) := by decide +kernel
theorem dX8_drawn_180 : decode cX8_drawn 180 = .ok (.isub, 1) := by decide +kernel
theorem dX8_drawn_181 : decode cX8_drawn 181 = .ok (.i2l, 1) := by decide +kernel
theorem dX8_drawn_182 : decode cX8_drawn 182 = .ok (.goto 5, 3) := by decide +kernel
theorem dX8_drawn_185 : decode cX8_drawn 185 = .ok (.lload 4, 2) := by decide +kernel
theorem dX8_drawn_187 : decode cX8_drawn 187 = .ok (.lstore 6, 2) := by decide +kernel
theorem dX8_drawn_189 : decode cX8_drawn 189 = .ok (.iconst 0, 1) := by decide +kernel
theorem dX8_drawn_190 : decode cX8_drawn 190 = .ok (.istore 8, 2) := by decide +kernel
theorem dX8_drawn_192 : decode cX8_drawn 192 = .ok (.iload 8, 2) := by decide +kernel
theorem dX8_drawn_194 : decode cX8_drawn 194 = .ok (.sipush 554, 3) := by decide +kernel
theorem dX8_drawn_197 : decode cX8_drawn 197 = .ok (.if_icmp .ge 23, 3) := by decide +kernel
theorem dX8_drawn_200 : decode cX8_drawn 200 = .ok (.aload_n 0, 1) := by decide +kernel
theorem dX8_drawn_201 : decode cX8_drawn 201 = .ok (.getfield 7, 3) := by decide +kernel
theorem dX8_drawn_204 : decode cX8_drawn 204 = .ok (.iload 8, 2) := by decide +kernel
theorem dX8_drawn_206 : decode cX8_drawn 206 = .ok (.aload_n 0, 1) := by decide +kernel
theorem dX8_drawn_207 : decode cX8_drawn 207 = .ok (.getfield 16, 3) := by decide +kernel
theorem dX8_drawn_210 : decode cX8_drawn 210 = .ok (.iload 8, 2) := by decide +kernel
theorem dX8_drawn_212 : decode cX8_drawn 212 = .ok (.iaload, 1) := by decide +kernel
theorem dX8_drawn_213 : decode cX8_drawn 213 = .ok (.iastore, 1) := by decide +kernel
theorem dX8_drawn_214 : decode cX8_drawn 214 = .ok (.iinc 8 1, 3) := by decide +kernel
theorem dX8_drawn_217 : decode cX8_drawn 217 = .ok (.goto (-25), 3) := by decide +kernel
theorem dX8_drawn_220 : decode cX8_drawn 220 = .ok (.lload 6, 2) := by decide +kernel
theorem dX8_drawn_222 : decode cX8_drawn 222 = .ok (.lreturn, 1) := by decide +kernel
set_option maxRecDepth 20000 in
theorem ggX8_image_X8_things : GoodIn wsX8_image wsX8_things := goodIn_r _ [8, 9, 10, 11, 7, 12, 2, 13, 14, 15, 16, 17, 18, 19, 20, 21, 22, 23, 24, 25, 26, 27, 28] (by decide +kernel) (by decide +kernel)
set_option maxRecDepth 20000 in
theorem gX8_image_X8_things : GoodIn wsX8_image (wsV RX8 207 RX8 yX8_things wsX8_things) := goodIn_app (goodIn_of _ (by decide +kernel)) ggX8_image_X8_things
theorem dX8_image_0 : decode cX8_image 0 = .ok (.iconst 0, 1) := by decide +kernel
theorem dX8_image_1 : decode cX8_image 1 = .ok (.istore_n 1, 1) := by decide +kernel
theorem dX8_image_2 : decode cX8_image 2 = .ok (.iload_n 1, 1) := by decide +kernel
theorem dX8_image_3 : decode cX8_image 3 = .ok (.sipush 554, 3) := by decide +kernel
theorem dX8_image_6 : decode cX8_image 6 = .ok (.if_icmp .ge 21, 3) := by decide +kernel
theorem dX8_image_9 : decode cX8_image 9 = .ok (.aload_n 0, 1) := by decide +kernel
theorem dX8_image_10 : decode cX8_image 10 = .ok (.getfield 13, 3) := by decide +kernel
theorem dX8_image_13 : decode cX8_image 13 = .ok (.iload_n 1, 1) := by decide +kernel
theorem dX8_image_14 : decode cX8_image 14 = .ok (.aload_n 0, 1) := by decide +kernel
theorem dX8_image_15 : decode cX8_image 15 = .ok (.getfield 7, 3) := by decide +kernel
theorem dX8_image_18 : decode cX8_image 18 = .ok (.iload_n 1, 1) := by decide +kernel
theorem dX8_image_19 : decode cX8_image 19 = .ok (.iaload, 1) := by decide +kernel
theorem dX8_image_20 : decode cX8_image 20 = .ok (.iastore, 1) := by decide +kernel
theorem dX8_image_21 : decode cX8_image 21 = .ok (.iinc 1 1, 3) := by decide +kernel
theorem dX8_image_24 : decode cX8_image 24 = .ok (.goto (-22), 3) := by decide +kernel
theorem dX8_image_27 : decode cX8_image 27 = .ok (.aload_n 0, 1) := by decide +kernel
theorem dX8_image_28 : decode cX8_image 28 = .ok (.iconst 1, 1) := by decide +kernel
theorem dX8_image_29 : decode cX8_image 29 = .ok (.putfield 213, 3) := by decide +kernel
theorem dX8_image_32 : decode cX8_image 32 = .ok (.aload_n 0, 1) := by decide +kernel
theorem dX8_image_33 : decode cX8_image 33 = .ok (.invokevirtual 207, 3) := by decide +kernel
theorem dX8_image_36 : decode cX8_image 36 = .ok (.ireturn, 1) := by decide +kernel
set_option maxRecDepth 20000 in
theorem ggX8_back_X8_things : GoodIn wsX8_back wsX8_things := goodIn_r _ [8, 9, 10, 11, 7, 12, 2, 13, 14, 15, 16, 17, 18, 19, 20, 21, 22, 23, 24, 25, 26, 27, 28] (by decide +kernel) (by decide +kernel)
set_option maxRecDepth 20000 in
theorem gX8_back_X8_things : GoodIn wsX8_back (wsV RX8 207 RX8 yX8_things wsX8_things) := goodIn_app (goodIn_of _ (by decide +kernel)) ggX8_back_X8_things
theorem dX8_back_0 : decode cX8_back 0 = .ok (.aload_n 0, 1) := by decide +kernel
theorem dX8_back_1 : decode cX8_back 1 = .ok (.getfield 213, 3) := by decide +kernel
theorem dX8_back_4 : decode cX8_back 4 = .ok (.ifCond .ne 6, 3) := by decide +kernel
theorem dX8_back_7 : decode cX8_back 7 = .ok (.bipush (-3), 2) := by decide +kernel
theorem dX8_back_9 : decode cX8_back 9 = .ok (.ireturn, 1) := by decide +kernel
theorem dX8_back_10 : decode cX8_back 10 = .ok (.iconst 0, 1) := by decide +kernel
theorem dX8_back_11 : decode cX8_back 11 = .ok (.istore_n 1, 1) := by decide +kernel
theorem dX8_back_12 : decode cX8_back 12 = .ok (.iload_n 1, 1) := by decide +kernel
theorem dX8_back_13 : decode cX8_back 13 = .ok (.sipush 554, 3) := by decide +kernel
theorem dX8_back_16 : decode cX8_back 16 = .ok (.if_icmp .ge 21, 3) := by decide +kernel
theorem dX8_back_19 : decode cX8_back 19 = .ok (.aload_n 0, 1) := by decide +kernel
theorem dX8_back_20 : decode cX8_back 20 = .ok (.getfield 7, 3) := by decide +kernel
theorem dX8_back_23 : decode cX8_back 23 = .ok (.iload_n 1, 1) := by decide +kernel
theorem dX8_back_24 : decode cX8_back 24 = .ok (.aload_n 0, 1) := by decide +kernel
theorem dX8_back_25 : decode cX8_back 25 = .ok (.getfield 13, 3) := by decide +kernel
theorem dX8_back_28 : decode cX8_back 28 = .ok (.iload_n 1, 1) := by decide +kernel
theorem dX8_back_29 : decode cX8_back 29 = .ok (.iaload, 1) := by decide +kernel
theorem dX8_back_30 : decode cX8_back 30 = .ok (.iastore, 1) := by decide +kernel
theorem dX8_back_31 : decode cX8_back 31 = .ok (.iinc 1 1, 3) := by decide +kernel
theorem dX8_back_34 : decode cX8_back 34 = .ok (.goto (-22), 3) := by decide +kernel
theorem dX8_back_37 : decode cX8_back 37 = .ok (.aload_n 0, 1) := by decide +kernel
theorem dX8_back_38 : decode cX8_back 38 = .ok (.invokevirtual 207, 3) := by decide +kernel
theorem dX8_back_41 : decode cX8_back 41 = .ok (.ireturn, 1) := by decide +kernel
set_option maxRecDepth 20000 in
theorem ggX8_count_X8_things : GoodIn wsX8_count wsX8_things := goodIn_r _ [6, 7, 8, 9, 5, 10, 1, 11, 12, 13, 18, 19, 20, 21, 22, 23, 24, 25, 26, 27, 28, 29, 30] (by decide +kernel) (by decide +kernel)
set_option maxRecDepth 20000 in
theorem gX8_count_X8_things : GoodIn wsX8_count (wsV RX8 207 RX8 yX8_things wsX8_things) := goodIn_app (goodIn_of _ (by decide +kernel)) ggX8_count_X8_things
set_option maxRecDepth 20000 in
theorem ggX8_count_X8_blocks : GoodIn wsX8_count wsX8_blocks := goodIn_r _ [17, 1, 18, 19, 20, 21, 22, 23, 24, 25, 26, 27, 28, 29, 30] (by decide +kernel) (by decide +kernel)
set_option maxRecDepth 20000 in
theorem gX8_count_X8_blocks : GoodIn wsX8_count (wsV RX8 210 RX8 yX8_blocks wsX8_blocks) := goodIn_app (goodIn_of _ (by decide +kernel)) ggX8_count_X8_blocks
theorem dX8_count_0 : decode cX8_count 0 = .ok (.iload_n 1, 1) := by decide +kernel
theorem dX8_count_1 : decode cX8_count 1 = .ok (.tableswitch 55 0 3 #[31, 36, 41, 48], 31) := by decide +kernel
theorem dX8_count_32 : decode cX8_count 32 = .ok (.aload_n 0, 1) := by decide +kernel
theorem dX8_count_33 : decode cX8_count 33 = .ok (.invokevirtual 207, 3) := by decide +kernel
theorem dX8_count_36 : decode cX8_count 36 = .ok (.ireturn, 1) := by decide +kernel
theorem dX8_count_37 : decode cX8_count 37 = .ok (.aload_n 0, 1) := by decide +kernel
theorem dX8_count_38 : decode cX8_count 38 = .ok (.invokevirtual 210, 3) := by decide +kernel
theorem dX8_count_41 : decode cX8_count 41 = .ok (.ireturn, 1) := by decide +kernel
theorem dX8_count_42 : decode cX8_count 42 = .ok (.aload_n 0, 1) := by decide +kernel
theorem dX8_count_43 : decode cX8_count 43 = .ok (.getfield 7, 3) := by decide +kernel
theorem dX8_count_46 : decode cX8_count 46 = .ok (.iconst 0, 1) := by decide +kernel
theorem dX8_count_47 : decode cX8_count 47 = .ok (.iaload, 1) := by decide +kernel
theorem dX8_count_48 : decode cX8_count 48 = .ok (.ireturn, 1) := by decide +kernel
theorem dX8_count_49 : decode cX8_count 49 = .ok (.aload_n 0, 1) := by decide +kernel
theorem dX8_count_50 : decode cX8_count 50 = .ok (.getfield 7, 3) := by decide +kernel
theorem dX8_count_53 : decode cX8_count 53 = .ok (.iconst 1, 1) := by decide +kernel
theorem dX8_count_54 : decode cX8_count 54 = .ok (.iaload, 1) := by decide +kernel
theorem dX8_count_55 : decode cX8_count 55 = .ok (.ireturn, 1) := by decide +kernel
theorem dX8_count_56 : decode cX8_count 56 = .ok (.bipush (-2), 2) := by decide +kernel
theorem dX8_count_58 : decode cX8_count 58 = .ok (.ireturn, 1) := by decide +kernel
theorem dJ6_compare_7cf53_0 : decode cJ6_compare_7cf53 0 = .ok (.iload_n 0, 1) := by decide +kernel
theorem dJ6_compare_7cf53_1 : decode cJ6_compare_7cf53 1 = .ok (.iload_n 1, 1) := by decide +kernel
theorem dJ6_compare_7cf53_2 : decode cJ6_compare_7cf53 2 = .ok (.if_icmp .ge 7, 3) := by decide +kernel
theorem dJ6_compare_7cf53_5 : decode cJ6_compare_7cf53 5 = .ok (.iconst (-1), 1) := by decide +kernel
theorem dJ6_compare_7cf53_6 : decode cJ6_compare_7cf53 6 = .ok (.goto 13, 3) := by decide +kernel
theorem dJ6_compare_7cf53_9 : decode cJ6_compare_7cf53 9 = .ok (.iload_n 0, 1) := by decide +kernel
theorem dJ6_compare_7cf53_10 : decode cJ6_compare_7cf53 10 = .ok (.iload_n 1, 1) := by decide +kernel
theorem dJ6_compare_7cf53_11 : decode cJ6_compare_7cf53 11 = .ok (.if_icmp .ne 7, 3) := by decide +kernel
theorem dJ6_compare_7cf53_14 : decode cJ6_compare_7cf53 14 = .ok (.iconst 0, 1) := by decide +kernel
theorem dJ6_compare_7cf53_15 : decode cJ6_compare_7cf53 15 = .ok (.goto 4, 3) := by decide +kernel
theorem dJ6_compare_7cf53_18 : decode cJ6_compare_7cf53 18 = .ok (.iconst 1, 1) := by decide +kernel
theorem dJ6_compare_7cf53_19 : decode cJ6_compare_7cf53 19 = .ok (.ireturn, 1) := by decide +kernel
theorem dJ6_bitCount_0f7a4_0 : decode cJ6_bitCount_0f7a4 0 = .ok (.iload_n 0, 1) := by decide +kernel
theorem dJ6_bitCount_0f7a4_1 : decode cJ6_bitCount_0f7a4 1 = .ok (.iload_n 0, 1) := by decide +kernel
theorem dJ6_bitCount_0f7a4_2 : decode cJ6_bitCount_0f7a4 2 = .ok (.iconst 1, 1) := by decide +kernel
theorem dJ6_bitCount_0f7a4_3 : decode cJ6_bitCount_0f7a4 3 = .ok (.iushr, 1) := by decide +kernel
theorem dJ6_bitCount_0f7a4_4 : decode cJ6_bitCount_0f7a4 4 = .ok (.ldc_w 265, 3) := by decide +kernel
theorem dJ6_bitCount_0f7a4_7 : decode cJ6_bitCount_0f7a4 7 = .ok (.iand, 1) := by decide +kernel
theorem dJ6_bitCount_0f7a4_8 : decode cJ6_bitCount_0f7a4 8 = .ok (.isub, 1) := by decide +kernel
theorem dJ6_bitCount_0f7a4_9 : decode cJ6_bitCount_0f7a4 9 = .ok (.istore_n 0, 1) := by decide +kernel
theorem dJ6_bitCount_0f7a4_10 : decode cJ6_bitCount_0f7a4 10 = .ok (.iload_n 0, 1) := by decide +kernel
theorem dJ6_bitCount_0f7a4_11 : decode cJ6_bitCount_0f7a4 11 = .ok (.ldc_w 266, 3) := by decide +kernel
theorem dJ6_bitCount_0f7a4_14 : decode cJ6_bitCount_0f7a4 14 = .ok (.iand, 1) := by decide +kernel
theorem dJ6_bitCount_0f7a4_15 : decode cJ6_bitCount_0f7a4 15 = .ok (.iload_n 0, 1) := by decide +kernel
theorem dJ6_bitCount_0f7a4_16 : decode cJ6_bitCount_0f7a4 16 = .ok (.iconst 2, 1) := by decide +kernel
theorem dJ6_bitCount_0f7a4_17 : decode cJ6_bitCount_0f7a4 17 = .ok (.iushr, 1) := by decide +kernel
theorem dJ6_bitCount_0f7a4_18 : decode cJ6_bitCount_0f7a4 18 = .ok (.ldc_w 266, 3) := by decide +kernel
theorem dJ6_bitCount_0f7a4_21 : decode cJ6_bitCount_0f7a4 21 = .ok (.iand, 1) := by decide +kernel
theorem dJ6_bitCount_0f7a4_22 : decode cJ6_bitCount_0f7a4 22 = .ok (.iadd, 1) := by decide +kernel
theorem dJ6_bitCount_0f7a4_23 : decode cJ6_bitCount_0f7a4 23 = .ok (.istore_n 0, 1) := by decide +kernel
theorem dJ6_bitCount_0f7a4_24 : decode cJ6_bitCount_0f7a4 24 = .ok (.iload_n 0, 1) := by decide +kernel
theorem dJ6_bitCount_0f7a4_25 : decode cJ6_bitCount_0f7a4 25 = .ok (.iload_n 0, 1) := by decide +kernel
theorem dJ6_bitCount_0f7a4_26 : decode cJ6_bitCount_0f7a4 26 = .ok (.iconst 4, 1) := by decide +kernel
theorem dJ6_bitCount_0f7a4_27 : decode cJ6_bitCount_0f7a4 27 = .ok (.iushr, 1) := by decide +kernel
theorem dJ6_bitCount_0f7a4_28 : decode cJ6_bitCount_0f7a4 28 = .ok (.iadd, 1) := by decide +kernel
theorem dJ6_bitCount_0f7a4_29 : decode cJ6_bitCount_0f7a4 29 = .ok (.ldc_w 267, 3) := by decide +kernel
theorem dJ6_bitCount_0f7a4_32 : decode cJ6_bitCount_0f7a4 32 = .ok (.iand, 1) := by decide +kernel
theorem dJ6_bitCount_0f7a4_33 : decode cJ6_bitCount_0f7a4 33 = .ok (.istore_n 0, 1) := by decide +kernel
theorem dJ6_bitCount_0f7a4_34 : decode cJ6_bitCount_0f7a4 34 = .ok (.iload_n 0, 1) := by decide +kernel
theorem dJ6_bitCount_0f7a4_35 : decode cJ6_bitCount_0f7a4 35 = .ok (.iload_n 0, 1) := by decide +kernel
theorem dJ6_bitCount_0f7a4_36 : decode cJ6_bitCount_0f7a4 36 = .ok (.bipush 8, 2) := by decide +kernel
theorem dJ6_bitCount_0f7a4_38 : decode cJ6_bitCount_0f7a4 38 = .ok (.iushr, 1) := by decide +kernel
theorem dJ6_bitCount_0f7a4_39 : decode cJ6_bitCount_0f7a4 39 = .ok (.iadd, 1) := by decide +kernel
theorem dJ6_bitCount_0f7a4_40 : decode cJ6_bitCount_0f7a4 40 = .ok (.istore_n 0, 1) := by decide +kernel
theorem dJ6_bitCount_0f7a4_41 : decode cJ6_bitCount_0f7a4 41 = .ok (.iload_n 0, 1) := by decide +kernel
theorem dJ6_bitCount_0f7a4_42 : decode cJ6_bitCount_0f7a4 42 = .ok (.iload_n 0, 1) := by decide +kernel
theorem dJ6_bitCount_0f7a4_43 : decode cJ6_bitCount_0f7a4 43 = .ok (.bipush 16, 2) := by decide +kernel
theorem dJ6_bitCount_0f7a4_45 : decode cJ6_bitCount_0f7a4 45 = .ok (.iushr, 1) := by decide +kernel
theorem dJ6_bitCount_0f7a4_46 : decode cJ6_bitCount_0f7a4 46 = .ok (.iadd, 1) := by decide +kernel
theorem dJ6_bitCount_0f7a4_47 : decode cJ6_bitCount_0f7a4 47 = .ok (.istore_n 0, 1) := by decide +kernel
theorem dJ6_bitCount_0f7a4_48 : decode cJ6_bitCount_0f7a4 48 = .ok (.iload_n 0, 1) := by decide +kernel
theorem dJ6_bitCount_0f7a4_49 : decode cJ6_bitCount_0f7a4 49 = .ok (.bipush 63, 2) := by decide +kernel
theorem dJ6_bitCount_0f7a4_51 : decode cJ6_bitCount_0f7a4 51 = .ok (.iand, 1) := by decide +kernel
theorem dJ6_bitCount_0f7a4_52 : decode cJ6_bitCount_0f7a4 52 = .ok (.ireturn, 1) := by decide +kernel
theorem dJ9_max_7cf53_0 : decode cJ9_max_7cf53 0 = .ok (.iload_n 0, 1) := by decide +kernel
theorem dJ9_max_7cf53_1 : decode cJ9_max_7cf53 1 = .ok (.iload_n 1, 1) := by decide +kernel
theorem dJ9_max_7cf53_2 : decode cJ9_max_7cf53 2 = .ok (.if_icmp .lt 7, 3) := by decide +kernel
theorem dJ9_max_7cf53_5 : decode cJ9_max_7cf53 5 = .ok (.iload_n 0, 1) := by decide +kernel
theorem dJ9_max_7cf53_6 : decode cJ9_max_7cf53 6 = .ok (.goto 4, 3) := by decide +kernel
theorem dJ9_max_7cf53_9 : decode cJ9_max_7cf53 9 = .ok (.iload_n 1, 1) := by decide +kernel
theorem dJ9_max_7cf53_10 : decode cJ9_max_7cf53 10 = .ok (.ireturn, 1) := by decide +kernel
theorem dJ9_max_f86c9_0 : decode cJ9_max_f86c9 0 = .ok (.lload_n 0, 1) := by decide +kernel
theorem dJ9_max_f86c9_1 : decode cJ9_max_f86c9 1 = .ok (.lload_n 2, 1) := by decide +kernel
theorem dJ9_max_f86c9_2 : decode cJ9_max_f86c9 2 = .ok (.lcmp, 1) := by decide +kernel
theorem dJ9_max_f86c9_3 : decode cJ9_max_f86c9 3 = .ok (.ifCond .lt 7, 3) := by decide +kernel
theorem dJ9_max_f86c9_6 : decode cJ9_max_f86c9 6 = .ok (.lload_n 0, 1) := by decide +kernel
theorem dJ9_max_f86c9_7 : decode cJ9_max_f86c9 7 = .ok (.goto 4, 3) := by decide +kernel
theorem dJ9_max_f86c9_10 : decode cJ9_max_f86c9 10 = .ok (.lload_n 2, 1) := by decide +kernel
theorem dJ9_max_f86c9_11 : decode cJ9_max_f86c9 11 = .ok (.lreturn, 1) := by decide +kernel
theorem dJ9_min_7cf53_0 : decode cJ9_min_7cf53 0 = .ok (.iload_n 0, 1) := by decide +kernel
theorem dJ9_min_7cf53_1 : decode cJ9_min_7cf53 1 = .ok (.iload_n 1, 1) := by decide +kernel
theorem dJ9_min_7cf53_2 : decode cJ9_min_7cf53 2 = .ok (.if_icmp .gt 7, 3) := by decide +kernel
theorem dJ9_min_7cf53_5 : decode cJ9_min_7cf53 5 = .ok (.iload_n 0, 1) := by decide +kernel
theorem dJ9_min_7cf53_6 : decode cJ9_min_7cf53 6 = .ok (.goto 4, 3) := by decide +kernel
theorem dJ9_min_7cf53_9 : decode cJ9_min_7cf53 9 = .ok (.iload_n 1, 1) := by decide +kernel
theorem dJ9_min_7cf53_10 : decode cJ9_min_7cf53 10 = .ok (.ireturn, 1) := by decide +kernel
set_option maxRecDepth 20000 in
theorem ggL_law_X7_init : GoodIn wsL_law wsX7_init := goodIn_r _ [9, 10, 11, 12, 13, 14, 15, 16, 17, 18, 19, 20, 21, 22, 23, 24, 25, 26, 27, 28, 29, 30, 31, 32, 33, 34, 35, 36, 37, 38, 39, 40, 41, 42, 43, 44, 45, 46, 47, 48, 49, 50, 51, 52, 53, 54, 55, 56, 57, 58, 59, 60, 61, 62, 63, 64, 65, 66, 67, 68, 69, 70, 71, 72, 73, 74, 75, 76, 77, 78, 79, 80, 81, 82, 83, 84, 85, 86, 87, 88, 89, 90, 91, 92, 93, 94, 95, 96, 97, 98, 99, 1030, 1031, 1032, 1033, 1034, 1035, 1036, 1037, 1038, 1039, 1040, 1008, 1009, 1010, 1011, 1012, 1013, 1014, 1015, 1016, 1041, 1042, 1043, 1044, 1045, 1046, 1047, 1048, 1049, 1050, 1051, 1052, 1053, 1054] (by decide +kernel) (by decide +kernel)
set_option maxRecDepth 20000 in
theorem gL_law_X7_init : GoodIn wsL_law (wsX7_init) := ggL_law_X7_init
set_option maxRecDepth 20000 in
theorem ggL_law_X8_init : GoodIn wsL_law wsX8_init := goodIn_r _ [102, 103, 11, 12, 44, 104, 105, 106, 107, 108, 109, 110, 111, 84, 112, 1017, 1018, 1019, 1020, 1021, 1022, 1023, 1024, 1025, 1026, 1027, 1028, 1029] (by decide +kernel) (by decide +kernel)
set_option maxRecDepth 20000 in
theorem gL_law_X8_init : GoodIn wsL_law (wsX8_init) := ggL_law_X8_init
set_option maxRecDepth 20000 in
theorem ggL_law_X7_files : GoodIn wsL_law wsX7_files := goodIn_r _ [116, 22, 117, 118, 119, 21, 120, 121, 60, 122, 123, 124, 15, 125, 54, 126, 127, 128, 129, 45, 46, 130, 131, 132, 133, 50, 1008, 1009, 1010, 1011, 1012, 1013, 1014, 1015, 1016, 1041, 1030, 1031, 1032, 1033, 1034, 1035, 1036, 1037, 1038, 1039, 1040] (by decide +kernel) (by decide +kernel)
set_option maxRecDepth 20000 in
theorem gL_law_X7_files : GoodIn wsL_law (wsV RL 13 RX7 yX7_files wsX7_files) := goodIn_app (goodIn_of _ (by decide +kernel)) ggL_law_X7_files
set_option maxRecDepth 20000 in
theorem ggL_law_X8_files : GoodIn wsL_law wsX8_files := goodIn_r _ [137, 138, 104, 139, 140, 5, 141, 142, 143, 144, 145, 146, 147, 148, 149, 1017, 1018, 1019, 1020, 1021, 1022, 1023, 1024, 1025, 1026, 1027, 1028, 1029] (by decide +kernel) (by decide +kernel)
set_option maxRecDepth 20000 in
theorem gL_law_X8_files : GoodIn wsL_law (wsV RL 17 RX8 yX8_files wsX8_files) := goodIn_app (goodIn_of _ (by decide +kernel)) ggL_law_X8_files
set_option maxRecDepth 20000 in
theorem ggL_law_X7_write : GoodIn wsL_law wsX7_write := goodIn_r _ [153, 22, 154, 155, 156, 21, 157, 121, 60, 158, 159, 160, 15, 161, 162, 163, 164, 165, 45, 166, 167, 168, 169, 170, 171, 172, 173, 174, 175, 176, 177, 50, 178, 179, 180, 181, 182, 183, 184, 185, 51, 186, 187, 188, 189, 52, 190, 191, 192, 193, 194, 195, 53, 54, 196, 197, 198, 199, 200, 201, 202, 203, 204, 205, 206, 207, 208, 209, 210, 211, 47, 212, 213, 214, 215, 46, 216, 217, 218, 219, 55, 1008, 1009, 1010, 1011, 1012, 1013, 1014, 1015, 1016, 1041, 1030, 1031, 1032, 1033, 1034, 1035, 1036, 1037, 1038, 1039, 1040] (by decide +kernel) (by decide +kernel)
set_option maxRecDepth 20000 in
theorem gL_law_X7_write : GoodIn wsL_law (wsV RL 18 RX7 yX7_write wsX7_write) := goodIn_app (goodIn_of _ (by decide +kernel)) ggL_law_X7_write
set_option maxRecDepth 20000 in
theorem ggL_law_X8_write : GoodIn wsL_law wsX8_write := goodIn_r _ [223, 138, 139, 140, 5, 141, 224, 225, 226, 227, 104, 228, 229, 230, 231, 232, 233, 234, 235, 236, 237, 238, 239, 240, 241, 242, 243, 244, 245, 246, 247, 248, 249, 250, 251, 252, 253, 254, 255, 256, 257, 258, 107, 259, 260, 261, 262, 263, 264, 265, 266, 267, 268, 269, 270, 271, 272, 273, 274, 1017, 1018, 1019, 1020, 1021, 1022, 1023, 1024, 1025, 1026, 1027, 1028, 1029] (by decide +kernel) (by decide +kernel)
set_option maxRecDepth 20000 in
theorem gL_law_X8_write : GoodIn wsL_law (wsV RL 22 RX8 yX8_write wsX8_write) := goodIn_app (goodIn_of _ (by decide +kernel)) ggL_law_X8_write
set_option maxRecDepth 20000 in
theorem ggL_law_X7_erase : GoodIn wsL_law wsX7_erase := goodIn_r _ [278, 22, 279, 280, 281, 21, 282, 60, 158, 159, 160, 15, 161, 162, 163, 164, 165, 45, 166, 167, 168, 169, 190, 183, 184, 185, 51, 196, 197, 198, 199, 200, 201, 202, 203, 204, 205, 206, 207, 53, 208, 209, 210, 211, 47, 212, 213, 214, 215, 46, 216, 217, 218, 219, 52, 55, 1008, 1009, 1010, 1011, 1012, 1013, 1014, 1015, 1016, 1041, 1030, 1031, 1032, 1033, 1034, 1035, 1036, 1037, 1038, 1039, 1040] (by decide +kernel) (by decide +kernel)
set_option maxRecDepth 20000 in
theorem gL_law_X7_erase : GoodIn wsL_law (wsV RL 23 RX7 yX7_erase wsX7_erase) := goodIn_app (goodIn_of _ (by decide +kernel)) ggL_law_X7_erase
set_option maxRecDepth 20000 in
theorem ggL_law_X8_erase : GoodIn wsL_law wsX8_erase := goodIn_r _ [286, 139, 140, 5, 141, 224, 225, 226, 227, 104, 228, 229, 230, 231, 232, 233, 234, 235, 236, 237, 238, 287, 288, 289, 290, 255, 256, 257, 258, 107, 259, 260, 261, 262, 263, 264, 265, 266, 267, 268, 269, 270, 271, 272, 273, 274, 1017, 1018, 1019, 1020, 1021, 1022, 1023, 1024, 1025, 1026, 1027, 1028, 1029] (by decide +kernel) (by decide +kernel)
set_option maxRecDepth 20000 in
theorem gL_law_X8_erase : GoodIn wsL_law (wsV RL 27 RX8 yX8_erase wsX8_erase) := goodIn_app (goodIn_of _ (by decide +kernel)) ggL_law_X8_erase
set_option maxRecDepth 20000 in
theorem ggL_law_X7_snap : GoodIn wsL_law wsX7_snap := goodIn_r _ [294, 22, 295, 296, 297, 21, 298, 60, 158, 159, 160, 15, 161, 162, 163, 164, 165, 45, 166, 167, 168, 169, 122, 123, 124, 125, 54, 126, 127, 128, 129, 46, 299, 300, 301, 302, 182, 183, 184, 185, 51, 303, 201, 202, 203, 208, 209, 210, 211, 47, 304, 305, 306, 307, 308, 309, 310, 311, 48, 312, 313, 314, 315, 49, 316, 317, 318, 319, 1008, 1009, 1010, 1011, 1012, 1013, 1014, 1015, 1016, 1041, 1030, 1031, 1032, 1033, 1034, 1035, 1036, 1037, 1038, 1039, 1040] (by decide +kernel) (by decide +kernel)
set_option maxRecDepth 20000 in
theorem gL_law_X7_snap : GoodIn wsL_law (wsV RL 28 RX7 yX7_snap wsX7_snap) := goodIn_app (goodIn_of _ (by decide +kernel)) ggL_law_X7_snap
set_option maxRecDepth 20000 in
theorem ggL_law_X8_snap : GoodIn wsL_law wsX8_snap := goodIn_r _ [323, 104, 139, 140, 5, 141, 224, 225, 226, 227, 228, 229, 230, 231, 232, 233, 234, 235, 236, 237, 238, 142, 143, 144, 145, 146, 147, 148, 149, 324, 325, 326, 327, 1017, 1018, 1019, 1020, 1021, 1022, 1023, 1024, 1025, 1026, 1027, 1028, 1029] (by decide +kernel) (by decide +kernel)
set_option maxRecDepth 20000 in
theorem gL_law_X8_snap : GoodIn wsL_law (wsV RL 31 RX8 yX8_snap wsX8_snap) := goodIn_app (goodIn_of _ (by decide +kernel)) ggL_law_X8_snap
set_option maxRecDepth 20000 in
theorem ggL_law_X7_tag : GoodIn wsL_law wsX7_tag := goodIn_r _ [331, 22, 332, 333, 334, 21, 335, 60, 158, 159, 160, 15, 161, 162, 163, 164, 165, 45, 166, 167, 168, 169, 336, 337, 338, 339, 49, 312, 313, 314, 315, 1008, 1009, 1010, 1011, 1012, 1013, 1014, 1015, 1016, 1041, 1030, 1031, 1032, 1033, 1034, 1035, 1036, 1037, 1038, 1039, 1040] (by decide +kernel) (by decide +kernel)
set_option maxRecDepth 20000 in
theorem gL_law_X7_tag : GoodIn wsL_law (wsV RL 32 RX7 yX7_tag wsX7_tag) := goodIn_app (goodIn_of _ (by decide +kernel)) ggL_law_X7_tag
set_option maxRecDepth 20000 in
theorem ggL_law_X8_tag : GoodIn wsL_law wsX8_tag := goodIn_r _ [343, 104, 139, 140, 5, 141, 224, 225, 226, 227, 228, 229, 230, 231, 232, 233, 234, 235, 236, 237, 238, 1017, 1018, 1019, 1020, 1021, 1022, 1023, 1024, 1025, 1026, 1027, 1028, 1029] (by decide +kernel) (by decide +kernel)
set_option maxRecDepth 20000 in
theorem gL_law_X8_tag : GoodIn wsL_law (wsV RL 35 RX8 yX8_tag wsX8_tag) := goodIn_app (goodIn_of _ (by decide +kernel)) ggL_law_X8_tag
set_option maxRecDepth 20000 in
theorem ggL_law_X7_mark : GoodIn wsL_law wsX7_mark := goodIn_r _ [347, 22, 348, 349, 350, 21, 351, 60, 158, 159, 160, 15, 161, 162, 163, 164, 165, 45, 166, 167, 168, 169, 212, 213, 214, 215, 46, 126, 127, 128, 129, 1008, 1009, 1010, 1011, 1012, 1013, 1014, 1015, 1016, 1041, 1030, 1031, 1032, 1033, 1034, 1035, 1036, 1037, 1038, 1039, 1040] (by decide +kernel) (by decide +kernel)
set_option maxRecDepth 20000 in
theorem gL_law_X7_mark : GoodIn wsL_law (wsV RL 36 RX7 yX7_mark wsX7_mark) := goodIn_app (goodIn_of _ (by decide +kernel)) ggL_law_X7_mark
set_option maxRecDepth 20000 in
theorem ggL_law_X8_mark : GoodIn wsL_law wsX8_mark := goodIn_r _ [355, 104, 224, 225, 226, 5, 227, 228, 229, 230, 231, 139, 140, 141, 232, 233, 234, 235, 236, 237, 238, 142, 143, 144, 145, 146, 147, 148, 149, 1017, 1018, 1019, 1020, 1021, 1022, 1023, 1024, 1025, 1026, 1027, 1028, 1029] (by decide +kernel) (by decide +kernel)
set_option maxRecDepth 20000 in
theorem gL_law_X8_mark : GoodIn wsL_law (wsV RL 39 RX8 yX8_mark wsX8_mark) := goodIn_app (goodIn_of _ (by decide +kernel)) ggL_law_X8_mark
set_option maxRecDepth 20000 in
theorem ggL_law_X7_remove : GoodIn wsL_law wsX7_remove := goodIn_r _ [359, 22, 360, 361, 362, 21, 363, 60, 364, 163, 164, 15, 165, 45, 365, 366, 367, 368, 166, 167, 168, 169, 369, 370, 371, 372, 373, 374, 337, 338, 339, 49, 375, 376, 377, 378, 47, 379, 380, 381, 382, 383, 384, 385, 386, 208, 209, 210, 211, 190, 183, 184, 185, 51, 204, 205, 206, 207, 53, 212, 213, 214, 215, 46, 216, 217, 218, 219, 52, 55, 304, 305, 306, 307, 387, 388, 389, 390, 48, 50, 391, 392, 393, 394, 196, 197, 198, 199, 200, 201, 202, 203, 1008, 1009, 1010, 1011, 1012, 1013, 1014, 1015, 1016, 1041, 1030, 1031, 1032, 1033, 1034, 1035, 1036, 1037, 1038, 1039, 1040] (by decide +kernel) (by decide +kernel)
set_option maxRecDepth 20000 in
theorem gL_law_X7_remove : GoodIn wsL_law (wsV RL 40 RX7 yX7_remove wsX7_remove) := goodIn_app (goodIn_of _ (by decide +kernel)) ggL_law_X7_remove
set_option maxRecDepth 20000 in
theorem ggL_law_X8_remove : GoodIn wsL_law wsX8_remove := goodIn_r _ [398, 104, 228, 229, 230, 5, 231, 139, 140, 141, 232, 233, 234, 235, 271, 272, 273, 274, 236, 237, 238, 399, 400, 401, 402, 263, 264, 265, 266, 267, 268, 269, 270, 403, 404, 405, 406, 407, 408, 409, 410, 255, 256, 257, 258, 107, 259, 260, 261, 262, 1017, 1018, 1019, 1020, 1021, 1022, 1023, 1024, 1025, 1026, 1027, 1028, 1029] (by decide +kernel) (by decide +kernel)
set_option maxRecDepth 20000 in
theorem gL_law_X8_remove : GoodIn wsL_law (wsV RL 43 RX8 yX8_remove wsX8_remove) := goodIn_app (goodIn_of _ (by decide +kernel)) ggL_law_X8_remove
set_option maxRecDepth 20000 in
theorem ggL_law_X7_fork : GoodIn wsL_law wsX7_fork := goodIn_r _ [414, 22, 415, 416, 417, 21, 418, 60, 158, 159, 160, 15, 161, 162, 163, 164, 165, 45, 166, 167, 168, 169, 122, 123, 124, 125, 54, 126, 127, 128, 129, 46, 299, 300, 301, 302, 182, 183, 184, 185, 51, 303, 201, 202, 203, 304, 305, 306, 307, 47, 1008, 1009, 1010, 1011, 1012, 1013, 1014, 1015, 1016, 1041, 1030, 1031, 1032, 1033, 1034, 1035, 1036, 1037, 1038, 1039, 1040] (by decide +kernel) (by decide +kernel)
set_option maxRecDepth 20000 in
theorem gL_law_X7_fork : GoodIn wsL_law (wsV RL 44 RX7 yX7_fork wsX7_fork) := goodIn_app (goodIn_of _ (by decide +kernel)) ggL_law_X7_fork
set_option maxRecDepth 20000 in
theorem ggL_law_X8_fork : GoodIn wsL_law wsX8_fork := goodIn_r _ [422, 104, 224, 225, 226, 5, 227, 228, 229, 230, 231, 139, 140, 141, 232, 233, 234, 235, 236, 237, 238, 142, 143, 144, 145, 146, 147, 148, 149, 324, 325, 326, 327, 1017, 1018, 1019, 1020, 1021, 1022, 1023, 1024, 1025, 1026, 1027, 1028, 1029] (by decide +kernel) (by decide +kernel)
set_option maxRecDepth 20000 in
theorem gL_law_X8_fork : GoodIn wsL_law (wsV RL 47 RX8 yX8_fork wsX8_fork) := goodIn_app (goodIn_of _ (by decide +kernel)) ggL_law_X8_fork
set_option maxRecDepth 20000 in
theorem ggL_law_X7_promote : GoodIn wsL_law wsX7_promote := goodIn_r _ [426, 22, 427, 428, 429, 21, 430, 60, 158, 159, 160, 15, 161, 162, 163, 164, 165, 45, 166, 167, 168, 169, 431, 432, 433, 434, 435, 436, 437, 438, 439, 392, 393, 394, 48, 440, 441, 442, 443, 444, 209, 210, 211, 47, 445, 446, 447, 448, 308, 309, 310, 311, 208, 1008, 1009, 1010, 1011, 1012, 1013, 1014, 1015, 1016, 1041, 1030, 1031, 1032, 1033, 1034, 1035, 1036, 1037, 1038, 1039, 1040] (by decide +kernel) (by decide +kernel)
set_option maxRecDepth 20000 in
theorem gL_law_X7_promote : GoodIn wsL_law (wsV RL 48 RX7 yX7_promote wsX7_promote) := goodIn_app (goodIn_of _ (by decide +kernel)) ggL_law_X7_promote
set_option maxRecDepth 20000 in
theorem ggL_law_X8_promote : GoodIn wsL_law wsX8_promote := goodIn_r _ [452, 104, 224, 225, 226, 5, 227, 228, 229, 230, 231, 139, 140, 141, 232, 233, 234, 235, 236, 237, 238, 453, 454, 455, 456, 1017, 1018, 1019, 1020, 1021, 1022, 1023, 1024, 1025, 1026, 1027, 1028, 1029] (by decide +kernel) (by decide +kernel)
set_option maxRecDepth 20000 in
theorem gL_law_X8_promote : GoodIn wsL_law (wsV RL 51 RX8 yX8_promote wsX8_promote) := goodIn_app (goodIn_of _ (by decide +kernel)) ggL_law_X8_promote
set_option maxRecDepth 20000 in
theorem ggL_law_X7_rollback : GoodIn wsL_law wsX7_rollback := goodIn_r _ [460, 22, 461, 462, 463, 21, 464, 60, 158, 159, 160, 15, 161, 162, 163, 164, 165, 45, 166, 167, 168, 169, 208, 209, 210, 211, 47, 196, 197, 198, 199, 190, 183, 184, 185, 51, 200, 201, 202, 203, 204, 205, 206, 207, 53, 212, 213, 214, 215, 46, 216, 217, 218, 219, 52, 55, 299, 300, 301, 302, 182, 303, 1008, 1009, 1010, 1011, 1012, 1013, 1014, 1015, 1016, 1041, 1030, 1031, 1032, 1033, 1034, 1035, 1036, 1037, 1038, 1039, 1040] (by decide +kernel) (by decide +kernel)
set_option maxRecDepth 20000 in
theorem gL_law_X7_rollback : GoodIn wsL_law (wsV RL 52 RX7 yX7_rollback wsX7_rollback) := goodIn_app (goodIn_of _ (by decide +kernel)) ggL_law_X7_rollback
set_option maxRecDepth 20000 in
theorem ggL_law_X8_rollback : GoodIn wsL_law wsX8_rollback := goodIn_r _ [468, 104, 224, 225, 226, 5, 227, 228, 229, 230, 231, 139, 140, 141, 232, 233, 234, 235, 236, 237, 238, 324, 325, 326, 327, 255, 256, 257, 258, 107, 259, 260, 261, 262, 263, 264, 265, 266, 267, 268, 269, 270, 271, 272, 273, 274, 1017, 1018, 1019, 1020, 1021, 1022, 1023, 1024, 1025, 1026, 1027, 1028, 1029] (by decide +kernel) (by decide +kernel)
set_option maxRecDepth 20000 in
theorem gL_law_X8_rollback : GoodIn wsL_law (wsV RL 55 RX8 yX8_rollback wsX8_rollback) := goodIn_app (goodIn_of _ (by decide +kernel)) ggL_law_X8_rollback
set_option maxRecDepth 20000 in
theorem ggL_law_X7_tick : GoodIn wsL_law wsX7_tick := goodIn_r _ [472, 22, 473, 474, 475, 21, 476, 60, 477, 122, 123, 124, 15, 125, 54, 316, 317, 318, 319, 1008, 1009, 1010, 1011, 1012, 1013, 1014, 1015, 1016, 1041, 1030, 1031, 1032, 1033, 1034, 1035, 1036, 1037, 1038, 1039, 1040] (by decide +kernel) (by decide +kernel)
set_option maxRecDepth 20000 in
theorem gL_law_X7_tick : GoodIn wsL_law (wsV RL 56 RX7 yX7_tick wsX7_tick) := goodIn_app (goodIn_of _ (by decide +kernel)) ggL_law_X7_tick
set_option maxRecDepth 20000 in
theorem ggL_law_X8_tick : GoodIn wsL_law wsX8_tick := goodIn_r _ [481, 104, 482, 1017, 1018, 1019, 1020, 1021, 1022, 1023, 1024, 1025, 1026, 1027, 1028, 1029] (by decide +kernel) (by decide +kernel)
set_option maxRecDepth 20000 in
theorem gL_law_X8_tick : GoodIn wsL_law (wsV RL 60 RX8 yX8_tick wsX8_tick) := goodIn_app (goodIn_of _ (by decide +kernel)) ggL_law_X8_tick
set_option maxRecDepth 20000 in
theorem ggL_law_X7_told : GoodIn wsL_law wsX7_told := goodIn_r _ [486, 26, 487, 488, 489, 25, 490, 65, 491, 163, 164, 15, 165, 45, 492, 167, 168, 169, 493, 213, 214, 215, 46, 494, 209, 210, 211, 47, 495, 446, 447, 448, 48, 496, 432, 433, 434, 435, 436, 437, 438, 166, 439, 392, 393, 394, 440, 441, 442, 443, 444, 497, 376, 377, 378, 498, 499, 500, 501, 502, 183, 184, 185, 51, 503, 337, 338, 339, 49, 504, 175, 176, 177, 50, 505, 1008, 1009, 1010, 1011, 1012, 1013, 1014, 1015, 1016, 1042, 1043, 1030, 1031, 1032, 1033, 1034, 1035, 1036, 1037, 1038, 1039, 1040] (by decide +kernel) (by decide +kernel)
set_option maxRecDepth 20000 in
theorem gL_law_X7_told : GoodIn wsL_law (wsV RL 61 RX7 yX7_told wsX7_told) := goodIn_app (goodIn_of _ (by decide +kernel)) ggL_law_X7_told
set_option maxRecDepth 20000 in
theorem ggL_law_X8_told : GoodIn wsL_law wsX8_told := goodIn_r _ [509, 104, 139, 140, 5, 141, 228, 229, 230, 231, 232, 233, 234, 235, 267, 268, 269, 270, 236, 237, 238, 453, 454, 455, 456, 399, 400, 401, 402, 263, 264, 265, 266, 271, 272, 273, 274, 510, 511, 512, 513, 403, 404, 405, 406, 1017, 1018, 1019, 1020, 1021, 1022, 1023, 1024, 1025, 1026, 1027, 1028, 1029] (by decide +kernel) (by decide +kernel)
set_option maxRecDepth 20000 in
theorem gL_law_X8_told : GoodIn wsL_law (wsV RL 64 RX8 yX8_told wsX8_told) := goodIn_app (goodIn_of _ (by decide +kernel)) ggL_law_X8_told
set_option maxRecDepth 20000 in
theorem ggL_law_X7_slot : GoodIn wsL_law wsX7_slot := goodIn_r _ [517, 26, 518, 519, 520, 25, 521, 65, 522, 523, 524, 15, 525, 162, 163, 164, 165, 45, 166, 167, 168, 169, 502, 183, 184, 185, 51, 1008, 1009, 1010, 1011, 1012, 1013, 1014, 1015, 1016, 1042, 1043, 1030, 1031, 1032, 1033, 1034, 1035, 1036, 1037, 1038, 1039, 1040] (by decide +kernel) (by decide +kernel)
set_option maxRecDepth 20000 in
theorem gL_law_X7_slot : GoodIn wsL_law (wsV RL 65 RX7 yX7_slot wsX7_slot) := goodIn_app (goodIn_of _ (by decide +kernel)) ggL_law_X7_slot
set_option maxRecDepth 20000 in
theorem ggL_law_X8_slot : GoodIn wsL_law wsX8_slot := goodIn_r _ [529, 104, 139, 140, 5, 141, 530, 531, 532, 533, 228, 229, 230, 231, 232, 233, 234, 235, 263, 264, 265, 266, 267, 268, 269, 270, 236, 237, 238, 271, 272, 273, 274, 1017, 1018, 1019, 1020, 1021, 1022, 1023, 1024, 1025, 1026, 1027, 1028, 1029] (by decide +kernel) (by decide +kernel)
set_option maxRecDepth 20000 in
theorem gL_law_X8_slot : GoodIn wsL_law (wsV RL 68 RX8 yX8_slot wsX8_slot) := goodIn_app (goodIn_of _ (by decide +kernel)) ggL_law_X8_slot
set_option maxRecDepth 20000 in
theorem ggL_law_X7_block : GoodIn wsL_law wsX7_block := goodIn_r _ [537, 26, 538, 539, 540, 25, 541, 65, 69, 542, 187, 188, 15, 189, 52, 543, 205, 206, 207, 53, 544, 545, 546, 68, 547, 75, 74, 548, 183, 184, 185, 51, 549, 550, 551, 552, 553, 554, 555, 556, 557, 558, 559, 1008, 1009, 1010, 1011, 1012, 1013, 1014, 1015, 1016, 1042, 1043, 1030, 1031, 1032, 1033, 1034, 1035, 1036, 1037, 1038, 1039, 1040, 1053, 1054] (by decide +kernel) (by decide +kernel)
set_option maxRecDepth 20000 in
theorem gL_law_X7_block : GoodIn wsL_law (wsV RL 69 RX7 yX7_block wsX7_block) := goodIn_app (goodIn_of _ (by decide +kernel)) ggL_law_X7_block
set_option maxRecDepth 20000 in
theorem ggL_law_X8_block : GoodIn wsL_law wsX8_block := goodIn_r _ [563, 104, 107, 139, 140, 5, 141, 259, 260, 261, 262, 263, 264, 265, 266, 267, 268, 269, 270, 232, 233, 234, 235, 236, 237, 238, 271, 272, 273, 274, 1017, 1018, 1019, 1020, 1021, 1022, 1023, 1024, 1025, 1026, 1027, 1028, 1029] (by decide +kernel) (by decide +kernel)
set_option maxRecDepth 20000 in
theorem gL_law_X8_block : GoodIn wsL_law (wsV RL 72 RX8 yX8_block wsX8_block) := goodIn_app (goodIn_of _ (by decide +kernel)) ggL_law_X8_block
set_option maxRecDepth 20000 in
theorem ggL_law_X7_taken : GoodIn wsL_law wsX7_taken := goodIn_r _ [567, 26, 568, 569, 570, 25, 571, 65, 572, 159, 160, 15, 161, 162, 163, 164, 165, 45, 166, 167, 168, 169, 493, 213, 214, 215, 46, 1008, 1009, 1010, 1011, 1012, 1013, 1014, 1015, 1016, 1042, 1043, 1030, 1031, 1032, 1033, 1034, 1035, 1036, 1037, 1038, 1039, 1040] (by decide +kernel) (by decide +kernel)
set_option maxRecDepth 20000 in
theorem gL_law_X7_taken : GoodIn wsL_law (wsV RL 73 RX7 yX7_taken wsX7_taken) := goodIn_app (goodIn_of _ (by decide +kernel)) ggL_law_X7_taken
set_option maxRecDepth 20000 in
theorem ggL_law_X8_taken : GoodIn wsL_law wsX8_taken := goodIn_r _ [576, 104, 139, 140, 5, 141, 224, 225, 226, 227, 228, 229, 230, 231, 232, 233, 234, 235, 236, 237, 238, 1017, 1018, 1019, 1020, 1021, 1022, 1023, 1024, 1025, 1026, 1027, 1028, 1029] (by decide +kernel) (by decide +kernel)
set_option maxRecDepth 20000 in
theorem gL_law_X8_taken : GoodIn wsL_law (wsV RL 76 RX8 yX8_taken wsX8_taken) := goodIn_app (goodIn_of _ (by decide +kernel)) ggL_law_X8_taken
set_option maxRecDepth 20000 in
theorem ggL_law_X7_dead : GoodIn wsL_law wsX7_dead := goodIn_r _ [580, 26, 581, 582, 583, 25, 584, 65, 522, 523, 524, 15, 525, 162, 163, 164, 165, 45, 166, 167, 168, 169, 585, 586, 587, 588, 494, 209, 210, 211, 47, 502, 183, 184, 185, 51, 589, 590, 591, 592, 543, 205, 206, 207, 53, 593, 594, 555, 595, 1008, 1009, 1010, 1011, 1012, 1013, 1014, 1015, 1016, 1042, 1043, 1030, 1031, 1032, 1033, 1034, 1035, 1036, 1037, 1038, 1039, 1040] (by decide +kernel) (by decide +kernel)
set_option maxRecDepth 20000 in
theorem gL_law_X7_dead : GoodIn wsL_law (wsV RL 77 RX7 yX7_dead wsX7_dead) := goodIn_app (goodIn_of _ (by decide +kernel)) ggL_law_X7_dead
set_option maxRecDepth 20000 in
theorem ggL_law_X8_dead : GoodIn wsL_law wsX8_dead := goodIn_r _ [599, 104, 139, 140, 5, 141, 530, 531, 532, 533, 228, 229, 230, 231, 232, 233, 234, 235, 263, 264, 265, 266, 267, 268, 269, 270, 236, 237, 238, 271, 272, 273, 274, 600, 601, 602, 603, 604, 605, 606, 607, 1017, 1018, 1019, 1020, 1021, 1022, 1023, 1024, 1025, 1026, 1027, 1028, 1029] (by decide +kernel) (by decide +kernel)
set_option maxRecDepth 20000 in
theorem gL_law_X8_dead : GoodIn wsL_law (wsV RL 80 RX8 yX8_dead wsX8_dead) := goodIn_app (goodIn_of _ (by decide +kernel)) ggL_law_X8_dead
set_option maxRecDepth 20000 in
theorem ggL_law_X7_deadList : GoodIn wsL_law wsX7_deadList := goodIn_r _ [611, 26, 612, 613, 614, 25, 615, 65, 616, 617, 618, 619, 15, 620, 166, 167, 168, 169, 45, 621, 441, 442, 443, 444, 209, 210, 211, 47, 494, 493, 213, 214, 215, 46, 585, 586, 587, 588, 502, 183, 184, 185, 51, 543, 205, 206, 207, 53, 542, 187, 188, 189, 52, 1008, 1009, 1010, 1011, 1012, 1013, 1014, 1015, 1016, 1042, 1043, 1030, 1031, 1032, 1033, 1034, 1035, 1036, 1037, 1038, 1039, 1040] (by decide +kernel) (by decide +kernel)
set_option maxRecDepth 20000 in
theorem gL_law_X7_deadList : GoodIn wsL_law (wsV RL 81 RX7 yX7_deadList wsX7_deadList) := goodIn_app (goodIn_of _ (by decide +kernel)) ggL_law_X7_deadList
set_option maxRecDepth 20000 in
theorem ggL_law_X8_deadList : GoodIn wsL_law wsX8_deadList := goodIn_r _ [625, 626, 104, 263, 264, 265, 5, 266, 267, 268, 269, 270, 232, 233, 234, 235, 139, 140, 141, 236, 237, 238, 271, 272, 273, 274, 627, 628, 629, 630, 600, 601, 602, 603, 604, 605, 606, 607, 1017, 1018, 1019, 1020, 1021, 1022, 1023, 1024, 1025, 1026, 1027, 1028, 1029] (by decide +kernel) (by decide +kernel)
set_option maxRecDepth 20000 in
theorem gL_law_X8_deadList : GoodIn wsL_law (wsV RL 85 RX8 yX8_deadList wsX8_deadList) := goodIn_app (goodIn_of _ (by decide +kernel)) ggL_law_X8_deadList
set_option maxRecDepth 20000 in
theorem ggL_law_X7_space : GoodIn wsL_law wsX7_space := goodIn_r _ [634, 16, 635, 636, 618, 619, 15, 620, 166, 167, 168, 169, 45, 637, 179, 180, 181, 182, 183, 184, 185, 51, 186, 187, 188, 189, 52, 1008, 1009, 1010, 1011, 1012, 1013, 1014, 1015, 1016, 1030, 1031, 1032, 1033, 1034, 1035, 1036, 1037, 1038, 1039, 1040] (by decide +kernel) (by decide +kernel)
set_option maxRecDepth 20000 in
theorem gL_law_X7_space : GoodIn wsL_law (wsV RL 86 RX7 yX7_space wsX7_space) := goodIn_app (goodIn_of _ (by decide +kernel)) ggL_law_X7_space
set_option maxRecDepth 20000 in
theorem ggL_law_X8_space : GoodIn wsL_law wsX8_space := goodIn_r _ [641, 626, 263, 264, 265, 5, 266, 267, 268, 269, 270, 104, 232, 233, 234, 235, 139, 140, 141, 236, 237, 238, 271, 272, 273, 274, 247, 248, 249, 250, 1017, 1018, 1019, 1020, 1021, 1022, 1023, 1024, 1025, 1026, 1027, 1028, 1029] (by decide +kernel) (by decide +kernel)
set_option maxRecDepth 20000 in
theorem gL_law_X8_space : GoodIn wsL_law (wsV RL 90 RX8 yX8_space wsX8_space) := goodIn_app (goodIn_of _ (by decide +kernel)) ggL_law_X8_space
set_option maxRecDepth 20000 in
theorem ggL_law_X7_alone : GoodIn wsL_law wsX7_alone := goodIn_r _ [645, 16, 26, 635, 636, 618, 619, 15, 620, 166, 167, 168, 169, 45, 646, 647, 648, 25, 649, 69, 65, 544, 545, 546, 68, 547, 75, 74, 548, 183, 184, 185, 51, 549, 550, 551, 552, 542, 187, 188, 189, 52, 1008, 1009, 1010, 1011, 1012, 1013, 1014, 1015, 1016, 1030, 1031, 1032, 1033, 1034, 1035, 1036, 1037, 1038, 1039, 1040, 1042, 1043, 1053, 1054] (by decide +kernel) (by decide +kernel)
set_option maxRecDepth 20000 in
theorem gL_law_X7_alone : GoodIn wsL_law (wsV RL 91 RX7 yX7_alone wsX7_alone) := goodIn_app (goodIn_of _ (by decide +kernel)) ggL_law_X7_alone
set_option maxRecDepth 20000 in
theorem ggL_law_X8_alone : GoodIn wsL_law wsX8_alone := goodIn_r _ [653, 626, 263, 264, 265, 5, 266, 267, 268, 269, 270, 104, 232, 233, 234, 235, 139, 140, 141, 236, 237, 238, 271, 272, 273, 274, 654, 655, 656, 657, 107, 259, 260, 261, 262, 604, 605, 606, 607, 1017, 1018, 1019, 1020, 1021, 1022, 1023, 1024, 1025, 1026, 1027, 1028, 1029] (by decide +kernel) (by decide +kernel)
set_option maxRecDepth 20000 in
theorem gL_law_X8_alone : GoodIn wsL_law (wsV RL 94 RX8 yX8_alone wsX8_alone) := goodIn_app (goodIn_of _ (by decide +kernel)) ggL_law_X8_alone
set_option maxRecDepth 20000 in
theorem ggL_law_X7_range : GoodIn wsL_law wsX7_range := goodIn_r _ [661, 26, 662, 663, 664, 25, 665, 65, 616, 666, 366, 367, 15, 368, 166, 167, 168, 169, 45, 667, 647, 648, 649, 69, 544, 545, 546, 68, 547, 75, 74, 548, 183, 184, 185, 51, 549, 550, 551, 552, 542, 187, 188, 189, 52, 494, 209, 210, 211, 47, 1008, 1009, 1010, 1011, 1012, 1013, 1014, 1015, 1016, 1042, 1043, 1030, 1031, 1032, 1033, 1034, 1035, 1036, 1037, 1038, 1039, 1040, 1053, 1054] (by decide +kernel) (by decide +kernel)
set_option maxRecDepth 20000 in
theorem gL_law_X7_range : GoodIn wsL_law (wsV RL 95 RX7 yX7_range wsX7_range) := goodIn_app (goodIn_of _ (by decide +kernel)) ggL_law_X7_range
set_option maxRecDepth 20000 in
theorem ggL_law_X8_range : GoodIn wsL_law wsX8_range := goodIn_r _ [671, 626, 104, 271, 272, 273, 5, 274, 232, 233, 234, 235, 139, 140, 141, 236, 237, 238, 654, 655, 656, 657, 107, 259, 260, 261, 262, 263, 264, 265, 266, 267, 268, 269, 270, 604, 605, 606, 607, 1017, 1018, 1019, 1020, 1021, 1022, 1023, 1024, 1025, 1026, 1027, 1028, 1029] (by decide +kernel) (by decide +kernel)
set_option maxRecDepth 20000 in
theorem gL_law_X8_range : GoodIn wsL_law (wsV RL 98 RX8 yX8_range wsX8_range) := goodIn_app (goodIn_of _ (by decide +kernel)) ggL_law_X8_range
set_option maxRecDepth 20000 in
theorem ggL_law_X7_since : GoodIn wsL_law wsX7_since := goodIn_r _ [675, 26, 676, 677, 678, 25, 679, 65, 616, 617, 618, 619, 15, 620, 166, 167, 168, 169, 45, 492, 502, 183, 184, 185, 51, 543, 205, 206, 207, 53, 493, 213, 214, 215, 46, 542, 187, 188, 189, 52, 1008, 1009, 1010, 1011, 1012, 1013, 1014, 1015, 1016, 1042, 1043, 1030, 1031, 1032, 1033, 1034, 1035, 1036, 1037, 1038, 1039, 1040] (by decide +kernel) (by decide +kernel)
set_option maxRecDepth 20000 in
theorem gL_law_X7_since : GoodIn wsL_law (wsV RL 99 RX7 yX7_since wsX7_since) := goodIn_app (goodIn_of _ (by decide +kernel)) ggL_law_X7_since
set_option maxRecDepth 20000 in
theorem ggL_law_X8_since : GoodIn wsL_law wsX8_since := goodIn_r _ [683, 626, 104, 263, 264, 265, 5, 266, 267, 268, 269, 270, 232, 233, 234, 235, 139, 140, 141, 236, 237, 238, 271, 272, 273, 274, 1017, 1018, 1019, 1020, 1021, 1022, 1023, 1024, 1025, 1026, 1027, 1028, 1029] (by decide +kernel) (by decide +kernel)
set_option maxRecDepth 20000 in
theorem gL_law_X8_since : GoodIn wsL_law (wsV RL 102 RX8 yX8_since wsX8_since) := goodIn_app (goodIn_of _ (by decide +kernel)) ggL_law_X8_since
set_option maxRecDepth 20000 in
theorem ggL_law_X7_common : GoodIn wsL_law wsX7_common := goodIn_r _ [687, 26, 688, 689, 690, 25, 691, 65, 616, 617, 618, 619, 15, 620, 166, 167, 168, 169, 45, 502, 183, 184, 185, 51, 542, 187, 188, 189, 52, 1008, 1009, 1010, 1011, 1012, 1013, 1014, 1015, 1016, 1042, 1043, 1030, 1031, 1032, 1033, 1034, 1035, 1036, 1037, 1038, 1039, 1040] (by decide +kernel) (by decide +kernel)
set_option maxRecDepth 20000 in
theorem gL_law_X7_common : GoodIn wsL_law (wsV RL 103 RX7 yX7_common wsX7_common) := goodIn_app (goodIn_of _ (by decide +kernel)) ggL_law_X7_common
set_option maxRecDepth 20000 in
theorem ggL_law_X8_common : GoodIn wsL_law wsX8_common := goodIn_r _ [695, 626, 104, 263, 264, 265, 5, 266, 267, 268, 269, 270, 232, 233, 234, 235, 139, 140, 141, 236, 237, 238, 271, 272, 273, 274, 604, 605, 606, 607, 1017, 1018, 1019, 1020, 1021, 1022, 1023, 1024, 1025, 1026, 1027, 1028, 1029] (by decide +kernel) (by decide +kernel)
set_option maxRecDepth 20000 in
theorem gL_law_X8_common : GoodIn wsL_law (wsV RL 106 RX8 yX8_common wsX8_common) := goodIn_app (goodIn_of _ (by decide +kernel)) ggL_law_X8_common
set_option maxRecDepth 20000 in
theorem ggL_law_X7_most : GoodIn wsL_law wsX7_most := goodIn_r _ [699, 16, 635, 30, 700, 436, 437, 15, 438, 166, 167, 168, 169, 45, 701, 702, 703, 29, 704, 85, 705, 706, 707, 708, 709, 710, 711, 712, 82, 80, 713, 714, 715, 716, 717, 718, 719, 83, 720, 392, 393, 394, 48, 721, 441, 442, 443, 444, 209, 210, 211, 47, 722, 370, 371, 372, 373, 366, 367, 368, 374, 337, 338, 339, 49, 375, 376, 377, 378, 723, 545, 546, 68, 547, 75, 74, 548, 183, 184, 185, 51, 724, 550, 551, 552, 725, 726, 727, 728, 729, 187, 188, 189, 52, 730, 731, 732, 733, 734, 554, 555, 556, 557, 558, 559, 1008, 1009, 1010, 1011, 1012, 1013, 1014, 1015, 1016, 1030, 1031, 1032, 1033, 1034, 1035, 1036, 1037, 1038, 1039, 1040, 1044, 1045, 1046, 1047, 1053, 1054] (by decide +kernel) (by decide +kernel)
set_option maxRecDepth 20000 in
theorem gL_law_X7_most : GoodIn wsL_law (wsV RL 107 RX7 yX7_most wsX7_most) := goodIn_app (goodIn_of _ (by decide +kernel)) ggL_law_X7_most
set_option maxRecDepth 20000 in
theorem ggL_law_X8_most : GoodIn wsL_law wsX8_most := goodIn_r _ [738, 626, 139, 140, 5, 141, 267, 268, 269, 270, 104, 232, 233, 234, 235, 236, 237, 238, 739, 740, 741, 742, 743, 108, 271, 272, 273, 274, 744, 745, 746, 747, 109, 107, 259, 260, 261, 262, 263, 264, 265, 266, 748, 749, 750, 751, 399, 400, 401, 402, 752, 753, 754, 755, 756, 757, 758, 759, 1017, 1018, 1019, 1020, 1021, 1022, 1023, 1024, 1025, 1026, 1027, 1028, 1029] (by decide +kernel) (by decide +kernel)
set_option maxRecDepth 20000 in
theorem gL_law_X8_most : GoodIn wsL_law (wsV RL 110 RX8 yX8_most wsX8_most) := goodIn_app (goodIn_of _ (by decide +kernel)) ggL_law_X8_most
set_option maxRecDepth 20000 in
theorem ggL_law_X7_fewest : GoodIn wsL_law wsX7_fewest := goodIn_r _ [763, 16, 30, 764, 159, 160, 15, 161, 162, 163, 164, 165, 45, 166, 167, 168, 169, 765, 766, 767, 29, 768, 85, 709, 710, 711, 712, 82, 80, 713, 714, 715, 716, 717, 718, 707, 719, 83, 720, 392, 393, 394, 48, 721, 441, 442, 443, 444, 209, 210, 211, 47, 722, 370, 371, 372, 373, 366, 367, 368, 374, 337, 338, 339, 49, 375, 376, 377, 378, 723, 545, 546, 68, 547, 75, 74, 548, 183, 184, 185, 51, 724, 550, 551, 552, 725, 726, 727, 728, 729, 187, 188, 189, 52, 730, 731, 732, 733, 734, 554, 555, 556, 557, 558, 559, 1008, 1009, 1010, 1011, 1012, 1013, 1014, 1015, 1016, 1030, 1031, 1032, 1033, 1034, 1035, 1036, 1037, 1038, 1039, 1040, 1044, 1045, 1046, 1047, 1053, 1054] (by decide +kernel) (by decide +kernel)
set_option maxRecDepth 20000 in
theorem gL_law_X7_fewest : GoodIn wsL_law (wsV RL 113 RX7 yX7_fewest wsX7_fewest) := goodIn_app (goodIn_of _ (by decide +kernel)) ggL_law_X7_fewest
set_option maxRecDepth 20000 in
theorem ggL_law_X8_fewest : GoodIn wsL_law wsX8_fewest := goodIn_r _ [772, 224, 225, 226, 5, 227, 104, 228, 229, 230, 231, 139, 140, 141, 232, 233, 234, 235, 236, 237, 238, 739, 740, 741, 742, 743, 108, 271, 272, 273, 274, 744, 745, 746, 747, 109, 107, 259, 260, 261, 262, 263, 264, 265, 266, 267, 268, 269, 270, 748, 749, 750, 751, 399, 400, 401, 402, 752, 753, 754, 755, 756, 757, 758, 759, 1017, 1018, 1019, 1020, 1021, 1022, 1023, 1024, 1025, 1026, 1027, 1028, 1029] (by decide +kernel) (by decide +kernel)
set_option maxRecDepth 20000 in
theorem gL_law_X8_fewest : GoodIn wsL_law (wsV RL 117 RX8 yX8_fewest wsX8_fewest) := goodIn_app (goodIn_of _ (by decide +kernel)) ggL_law_X8_fewest
set_option maxRecDepth 20000 in
theorem ggL_law_X7_expire : GoodIn wsL_law wsX7_expire := goodIn_r _ [776, 22, 777, 778, 779, 21, 780, 60, 158, 159, 160, 15, 161, 162, 163, 164, 165, 45, 166, 167, 168, 169, 391, 392, 393, 394, 48, 781, 441, 442, 443, 444, 209, 210, 211, 47, 212, 213, 214, 215, 46, 369, 370, 371, 372, 373, 366, 367, 368, 374, 337, 338, 339, 49, 375, 376, 377, 378, 379, 380, 381, 382, 383, 384, 385, 386, 208, 190, 183, 184, 185, 51, 204, 205, 206, 207, 53, 216, 217, 218, 219, 52, 55, 304, 305, 306, 307, 387, 388, 389, 390, 50, 1008, 1009, 1010, 1011, 1012, 1013, 1014, 1015, 1016, 1041, 1030, 1031, 1032, 1033, 1034, 1035, 1036, 1037, 1038, 1039, 1040] (by decide +kernel) (by decide +kernel)
set_option maxRecDepth 20000 in
theorem gL_law_X7_expire : GoodIn wsL_law (wsV RL 118 RX7 yX7_expire wsX7_expire) := goodIn_app (goodIn_of _ (by decide +kernel)) ggL_law_X7_expire
set_option maxRecDepth 20000 in
theorem ggL_law_X8_expire : GoodIn wsL_law wsX8_expire := goodIn_r _ [785, 743, 108, 104, 139, 140, 5, 141, 224, 225, 226, 227, 228, 229, 230, 231, 232, 233, 234, 235, 236, 237, 238, 739, 740, 741, 742, 271, 272, 273, 274, 748, 749, 750, 751, 399, 400, 401, 402, 263, 264, 265, 266, 267, 268, 269, 270, 407, 408, 409, 410, 255, 256, 257, 258, 107, 259, 260, 261, 262, 1017, 1018, 1019, 1020, 1021, 1022, 1023, 1024, 1025, 1026, 1027, 1028, 1029] (by decide +kernel) (by decide +kernel)
set_option maxRecDepth 20000 in
theorem gL_law_X8_expire : GoodIn wsL_law (wsV RL 121 RX8 yX8_expire wsX8_expire) := goodIn_app (goodIn_of _ (by decide +kernel)) ggL_law_X8_expire
set_option maxRecDepth 20000 in
theorem ggL_law_X7_sheet : GoodIn wsL_law wsX7_sheet := goodIn_r _ [789, 36, 790, 791, 2, 792, 793, 794, 795, 38, 796, 98, 99, 797, 798, 799, 800, 801, 718, 707, 719, 802, 803, 804, 97, 1008, 1009, 1010, 1011, 1012, 1013, 1014, 1015, 1016, 1050, 1051, 1052] (by decide +kernel) (by decide +kernel)
set_option maxRecDepth 20000 in
theorem gL_law_X7_sheet : GoodIn wsL_law (wsV RL 122 RX7 yX7_sheet wsX7_sheet) := goodIn_app (goodIn_of _ (by decide +kernel)) ggL_law_X7_sheet
set_option maxRecDepth 20000 in
theorem ggL_law_X8_sheet : GoodIn wsL_law wsX8_sheet := goodIn_r _ [808, 809, 810, 5, 811, 139, 140, 141, 812, 813, 814, 815, 110, 111, 112, 1017, 1018, 1019, 1020, 1021, 1022, 1023, 1024, 1025, 1026, 1027, 1028, 1029] (by decide +kernel) (by decide +kernel)
set_option maxRecDepth 20000 in
theorem gL_law_X8_sheet : GoodIn wsL_law (wsV RL 125 RX8 yX8_sheet wsX8_sheet) := goodIn_app (goodIn_of _ (by decide +kernel)) ggL_law_X8_sheet
set_option maxRecDepth 20000 in
theorem ggL_law_X7_cell : GoodIn wsL_law wsX7_cell := goodIn_r _ [819, 36, 790, 791, 2, 792, 820, 821, 822, 38, 823, 98, 824, 825, 826, 827, 99, 97, 1008, 1009, 1010, 1011, 1012, 1013, 1014, 1015, 1016, 1050, 1051, 1052] (by decide +kernel) (by decide +kernel)
set_option maxRecDepth 20000 in
theorem gL_law_X7_cell : GoodIn wsL_law (wsV RL 126 RX7 yX7_cell wsX7_cell) := goodIn_app (goodIn_of _ (by decide +kernel)) ggL_law_X7_cell
set_option maxRecDepth 20000 in
theorem ggL_law_X8_cell : GoodIn wsL_law wsX8_cell := goodIn_r _ [831, 110, 111, 112, 809, 810, 5, 811, 139, 140, 141, 1017, 1018, 1019, 1020, 1021, 1022, 1023, 1024, 1025, 1026, 1027, 1028, 1029] (by decide +kernel) (by decide +kernel)
set_option maxRecDepth 20000 in
theorem gL_law_X8_cell : GoodIn wsL_law (wsV RL 130 RX8 yX8_cell wsX8_cell) := goodIn_app (goodIn_of _ (by decide +kernel)) ggL_law_X8_cell
set_option maxRecDepth 20000 in
theorem ggL_law_X7_item : GoodIn wsL_law wsX7_item := goodIn_r _ [835, 36, 635, 790, 791, 2, 792, 836, 837, 838, 38, 839, 99, 840, 841, 842, 843, 97, 844, 1008, 1009, 1010, 1011, 1012, 1013, 1014, 1015, 1016, 1050, 1051, 1052] (by decide +kernel) (by decide +kernel)
set_option maxRecDepth 20000 in
theorem gL_law_X7_item : GoodIn wsL_law (wsV RL 131 RX7 yX7_item wsX7_item) := goodIn_app (goodIn_of _ (by decide +kernel)) ggL_law_X7_item
set_option maxRecDepth 20000 in
theorem ggL_law_X8_item : GoodIn wsL_law wsX8_item := goodIn_r _ [848, 110, 111, 112, 626, 809, 810, 5, 811, 139, 140, 141, 1017, 1018, 1019, 1020, 1021, 1022, 1023, 1024, 1025, 1026, 1027, 1028, 1029] (by decide +kernel) (by decide +kernel)
set_option maxRecDepth 20000 in
theorem gL_law_X8_item : GoodIn wsL_law (wsV RL 134 RX8 yX8_item wsX8_item) := goodIn_app (goodIn_of _ (by decide +kernel)) ggL_law_X8_item
set_option maxRecDepth 20000 in
theorem ggL_law_X7_differ : GoodIn wsL_law wsX7_differ := goodIn_r _ [852, 16, 26, 36, 790, 791, 2, 792, 853, 523, 524, 15, 525, 162, 163, 164, 165, 45, 166, 167, 168, 169, 854, 855, 856, 25, 857, 65, 858, 798, 799, 38, 800, 98, 801, 718, 707, 719, 802, 803, 804, 99, 97, 502, 183, 184, 185, 51, 859, 860, 861, 862, 863, 825, 826, 827, 542, 187, 188, 189, 52, 864, 865, 866, 867, 1008, 1009, 1010, 1011, 1012, 1013, 1014, 1015, 1016, 1030, 1031, 1032, 1033, 1034, 1035, 1036, 1037, 1038, 1039, 1040, 1042, 1043, 1050, 1051, 1052] (by decide +kernel) (by decide +kernel)
set_option maxRecDepth 20000 in
theorem gL_law_X7_differ : GoodIn wsL_law (wsV RL 135 RX7 yX7_differ wsX7_differ) := goodIn_app (goodIn_of _ (by decide +kernel)) ggL_law_X7_differ
set_option maxRecDepth 20000 in
theorem ggL_law_X8_differ : GoodIn wsL_law wsX8_differ := goodIn_r _ [871, 104, 112, 111, 809, 810, 5, 811, 139, 140, 141, 530, 531, 532, 533, 228, 229, 230, 231, 232, 233, 234, 235, 263, 264, 265, 266, 267, 268, 269, 270, 236, 237, 238, 271, 272, 273, 274, 812, 813, 814, 815, 110, 251, 252, 253, 254, 1017, 1018, 1019, 1020, 1021, 1022, 1023, 1024, 1025, 1026, 1027, 1028, 1029] (by decide +kernel) (by decide +kernel)
set_option maxRecDepth 20000 in
theorem gL_law_X8_differ : GoodIn wsL_law (wsV RL 138 RX8 yX8_differ wsX8_differ) := goodIn_app (goodIn_of _ (by decide +kernel)) ggL_law_X8_differ
set_option maxRecDepth 20000 in
theorem ggL_law_X7_apply : GoodIn wsL_law wsX7_apply := goodIn_r _ [875, 16, 36, 22, 790, 791, 2, 792, 764, 159, 160, 15, 161, 162, 163, 164, 165, 45, 166, 167, 168, 169, 876, 877, 878, 38, 879, 98, 880, 821, 822, 823, 881, 882, 883, 21, 884, 885, 865, 866, 867, 99, 886, 841, 842, 843, 97, 844, 837, 838, 839, 887, 888, 889, 890, 891, 892, 196, 197, 198, 199, 60, 190, 183, 184, 185, 51, 200, 201, 202, 203, 204, 205, 206, 207, 53, 208, 209, 210, 211, 47, 212, 213, 214, 215, 46, 216, 217, 218, 219, 52, 55, 170, 171, 172, 173, 174, 175, 176, 177, 50, 178, 179, 180, 181, 182, 186, 187, 188, 189, 191, 192, 193, 194, 195, 54, 1008, 1009, 1010, 1011, 1012, 1013, 1014, 1015, 1016, 1030, 1031, 1032, 1033, 1034, 1035, 1036, 1037, 1038, 1039, 1040, 1050, 1051, 1052, 1041] (by decide +kernel) (by decide +kernel)
set_option maxRecDepth 20000 in
theorem gL_law_X7_apply : GoodIn wsL_law (wsV RL 139 RX7 yX7_apply wsX7_apply) := goodIn_app (goodIn_of _ (by decide +kernel)) ggL_law_X7_apply
set_option maxRecDepth 20000 in
theorem ggL_law_X8_apply : GoodIn wsL_law wsX8_apply := goodIn_r _ [896, 110, 111, 112, 809, 810, 5, 811, 139, 140, 141, 224, 225, 226, 227, 104, 228, 229, 230, 231, 232, 233, 234, 235, 236, 237, 238, 897, 898, 899, 900, 901, 902, 287, 288, 289, 290, 255, 256, 257, 258, 107, 259, 260, 261, 262, 263, 264, 265, 266, 267, 268, 269, 270, 271, 272, 273, 274, 239, 240, 241, 242, 243, 244, 245, 246, 247, 248, 249, 250, 251, 252, 253, 254, 1017, 1018, 1019, 1020, 1021, 1022, 1023, 1024, 1025, 1026, 1027, 1028, 1029] (by decide +kernel) (by decide +kernel)
set_option maxRecDepth 20000 in
theorem gL_law_X8_apply : GoodIn wsL_law (wsV RL 142 RX8 yX8_apply wsX8_apply) := goodIn_app (goodIn_of _ (by decide +kernel)) ggL_law_X8_apply
set_option maxRecDepth 20000 in
theorem ggL_law_X7_drawn : GoodIn wsL_law wsX7_drawn := goodIn_r _ [906, 635, 17, 16, 34, 907, 908, 909, 15, 910, 45, 911, 912, 913, 914, 46, 47, 48, 49, 50, 51, 52, 53, 54, 55, 915, 916, 917, 33, 918, 92, 919, 920, 921, 922, 923, 924, 925, 926, 927, 91, 928, 155, 156, 21, 157, 121, 60, 158, 159, 160, 161, 162, 163, 164, 165, 166, 167, 168, 169, 170, 171, 172, 173, 174, 175, 176, 177, 178, 179, 180, 181, 182, 183, 184, 185, 186, 187, 188, 189, 190, 191, 192, 193, 194, 195, 196, 197, 198, 199, 200, 201, 202, 203, 204, 205, 206, 207, 208, 209, 210, 211, 212, 213, 214, 215, 216, 217, 218, 219, 929, 280, 281, 282, 930, 296, 297, 298, 122, 123, 124, 125, 126, 127, 128, 129, 299, 300, 301, 302, 303, 304, 305, 306, 307, 308, 309, 310, 311, 312, 313, 314, 315, 316, 317, 318, 319, 931, 361, 362, 363, 364, 365, 366, 367, 368, 369, 370, 371, 372, 373, 374, 337, 338, 339, 375, 376, 377, 378, 379, 380, 381, 382, 383, 384, 385, 386, 387, 388, 389, 390, 391, 392, 393, 394, 932, 416, 417, 418, 933, 428, 429, 430, 431, 432, 433, 434, 435, 436, 437, 438, 439, 440, 441, 442, 443, 444, 445, 446, 447, 448, 934, 462, 463, 464, 935, 118, 119, 120, 130, 131, 132, 133, 936, 937, 938, 939, 940, 941, 942, 943, 944, 945, 946, 947, 948, 949, 950, 951, 1008, 1009, 1010, 1011, 1012, 1013, 1014, 1015, 1016, 1030, 1031, 1032, 1033, 1034, 1035, 1036, 1037, 1038, 1039, 1040, 1048, 1049, 1041] (by decide +kernel) (by decide +kernel)
set_option maxRecDepth 20000 in
theorem gL_law_X7_drawn : GoodIn wsL_law (wsV RL 143 RX7 yX7_drawn wsX7_drawn) := goodIn_app (goodIn_of _ (by decide +kernel)) ggL_law_X7_drawn
set_option maxRecDepth 20000 in
theorem ggL_law_X8_drawn : GoodIn wsL_law wsX8_drawn := goodIn_r _ [955, 626, 106, 104, 956, 139, 140, 5, 141, 957, 958, 959, 960, 961, 962, 963, 964, 965, 966, 221, 222, 223, 138, 224, 225, 226, 227, 228, 229, 230, 231, 232, 233, 234, 235, 236, 237, 238, 239, 240, 241, 242, 243, 244, 245, 246, 247, 248, 249, 250, 251, 252, 253, 254, 255, 256, 257, 258, 107, 259, 260, 261, 262, 263, 264, 265, 266, 267, 268, 269, 270, 271, 272, 273, 274, 967, 284, 285, 286, 287, 288, 289, 290, 968, 321, 322, 323, 142, 143, 144, 145, 146, 147, 148, 149, 324, 325, 326, 327, 969, 396, 397, 398, 399, 400, 401, 402, 403, 404, 405, 406, 407, 408, 409, 410, 970, 420, 421, 422, 971, 450, 451, 452, 453, 454, 455, 456, 972, 466, 467, 468, 973, 135, 136, 137, 974, 975, 976, 977, 978, 979, 980, 981, 1017, 1018, 1019, 1020, 1021, 1022, 1023, 1024, 1025, 1026, 1027, 1028, 1029] (by decide +kernel) (by decide +kernel)
set_option maxRecDepth 20000 in
theorem gL_law_X8_drawn : GoodIn wsL_law (wsV RL 147 RX8 yX8_drawn wsX8_drawn) := goodIn_app (goodIn_of _ (by decide +kernel)) ggL_law_X8_drawn
set_option maxRecDepth 20000 in
theorem ggL_law_X7_image : GoodIn wsL_law wsX7_image := goodIn_r _ [985, 18, 16, 39, 907, 908, 909, 15, 910, 45, 911, 912, 913, 914, 46, 47, 48, 49, 50, 51, 52, 53, 54, 55, 936, 937, 938, 939, 1008, 1009, 1010, 1011, 1012, 1013, 1014, 1015, 1016, 1030, 1031, 1032, 1033, 1034, 1035, 1036, 1037, 1038, 1039, 1040] (by decide +kernel) (by decide +kernel)
set_option maxRecDepth 20000 in
theorem gL_law_X7_image : GoodIn wsL_law (wsV RL 148 RX7 yX7_image wsX7_image) := goodIn_app (goodIn_of _ (by decide +kernel)) ggL_law_X7_image
set_option maxRecDepth 20000 in
theorem ggL_law_X8_image : GoodIn wsL_law wsX8_image := goodIn_r _ [989, 105, 104, 990, 974, 975, 976, 5, 977, 232, 233, 234, 235, 139, 140, 141, 1017, 1018, 1019, 1020, 1021, 1022, 1023, 1024, 1025, 1026, 1027, 1028, 1029] (by decide +kernel) (by decide +kernel)
set_option maxRecDepth 20000 in
theorem gL_law_X8_image : GoodIn wsL_law (wsV RL 151 RX8 yX8_image wsX8_image) := goodIn_app (goodIn_of _ (by decide +kernel)) ggL_law_X8_image
set_option maxRecDepth 20000 in
theorem ggL_law_X7_back : GoodIn wsL_law wsX7_back := goodIn_r _ [994, 39, 16, 18, 907, 908, 909, 15, 910, 45, 911, 912, 913, 914, 46, 47, 48, 49, 50, 51, 52, 53, 54, 55, 936, 937, 938, 939, 1008, 1009, 1010, 1011, 1012, 1013, 1014, 1015, 1016, 1030, 1031, 1032, 1033, 1034, 1035, 1036, 1037, 1038, 1039, 1040] (by decide +kernel) (by decide +kernel)
set_option maxRecDepth 20000 in
theorem gL_law_X7_back : GoodIn wsL_law (wsV RL 152 RX7 yX7_back wsX7_back) := goodIn_app (goodIn_of _ (by decide +kernel)) ggL_law_X7_back
set_option maxRecDepth 20000 in
theorem ggL_law_X8_back : GoodIn wsL_law wsX8_back := goodIn_r _ [998, 990, 104, 105, 974, 975, 976, 5, 977, 232, 233, 234, 235, 139, 140, 141, 1017, 1018, 1019, 1020, 1021, 1022, 1023, 1024, 1025, 1026, 1027, 1028, 1029] (by decide +kernel) (by decide +kernel)
set_option maxRecDepth 20000 in
theorem gL_law_X8_back : GoodIn wsL_law (wsV RL 155 RX8 yX8_back wsX8_back) := goodIn_app (goodIn_of _ (by decide +kernel)) ggL_law_X8_back
set_option maxRecDepth 20000 in
theorem ggL_law_X7_count : GoodIn wsL_law wsX7_count := goodIn_r _ [1002, 16, 936, 937, 938, 15, 939, 45, 940, 941, 942, 943, 52, 1003, 123, 124, 125, 54, 944, 945, 946, 947, 55, 1008, 1009, 1010, 1011, 1012, 1013, 1014, 1015, 1016, 1030, 1031, 1032, 1033, 1034, 1035, 1036, 1037, 1038, 1039, 1040] (by decide +kernel) (by decide +kernel)
set_option maxRecDepth 20000 in
theorem gL_law_X7_count : GoodIn wsL_law (wsV RL 156 RX7 yX7_count wsX7_count) := goodIn_app (goodIn_of _ (by decide +kernel)) ggL_law_X7_count
set_option maxRecDepth 20000 in
theorem ggL_law_X8_count : GoodIn wsL_law wsX8_count := goodIn_r _ [1007, 104, 974, 975, 976, 5, 977, 232, 233, 234, 235, 139, 140, 141, 978, 979, 980, 981, 1017, 1018, 1019, 1020, 1021, 1022, 1023, 1024, 1025, 1026, 1027, 1028, 1029] (by decide +kernel) (by decide +kernel)
set_option maxRecDepth 20000 in
theorem gL_law_X8_count : GoodIn wsL_law (wsV RL 159 RX8 yX8_count wsX8_count) := goodIn_app (goodIn_of _ (by decide +kernel)) ggL_law_X8_count
theorem dL_law_0 : decode cL_law 0 = .ok (.new 7, 3) := by decide +kernel
theorem dL_law_3 : decode cL_law 3 = .ok (.dup, 1) := by decide +kernel
theorem dL_law_4 : decode cL_law 4 = .ok (.invokespecial 9, 3) := by decide +kernel
theorem dL_law_7 : decode cL_law 7 = .ok (.astore_n 1, 1) := by decide +kernel
theorem dL_law_8 : decode cL_law 8 = .ok (.new 10, 3) := by decide +kernel
theorem dL_law_11 : decode cL_law 11 = .ok (.dup, 1) := by decide +kernel
theorem dL_law_12 : decode cL_law 12 = .ok (.invokespecial 12, 3) := by decide +kernel
theorem dL_law_15 : decode cL_law 15 = .ok (.astore_n 2, 1) := by decide +kernel
theorem dL_law_16 : decode cL_law 16 = .ok (.iconst 0, 1) := by decide +kernel
theorem dL_law_17 : decode cL_law 17 = .ok (.istore_n 3, 1) := by decide +kernel
theorem dL_law_18 : decode cL_law 18 = .ok (.iload_n 3, 1) := by decide +kernel
theorem dL_law_19 : decode cL_law 19 = .ok (.aload_n 0, 1) := by decide +kernel
theorem dL_law_20 : decode cL_law 20 = .ok (.arraylength, 1) := by decide +kernel
theorem dL_law_21 : decode cL_law 21 = .ok (.iconst 5, 1) := by decide +kernel
theorem dL_law_22 : decode cL_law 22 = .ok (.isub, 1) := by decide +kernel
theorem dL_law_23 : decode cL_law 23 = .ok (.if_icmp .gt 1278, 3) := by decide +kernel
theorem dL_law_26 : decode cL_law 26 = .ok (.aload_n 0, 1) := by decide +kernel
theorem dL_law_27 : decode cL_law 27 = .ok (.iload_n 3, 1) := by decide +kernel
theorem dL_law_28 : decode cL_law 28 = .ok (.iaload, 1) := by decide +kernel
theorem dL_law_29 : decode cL_law 29 = .ok (.bipush 63, 2) := by decide +kernel
theorem dL_law_31 : decode cL_law 31 = .ok (.iand, 1) := by decide +kernel
theorem dL_law_32 : decode cL_law 32 = .ok (.tableswitch 1263 0 33 #[152, 175, 218, 251, 284, 317, 340, 363, 386, 409, 432, 445, 478, 511, 544, 577, 610, 644, 668, 692, 726, 760, 794, 828, 891, 934, 977, 1050, 1084, 1127, 1170, 1214, 1227, 1240], 152) := by decide +kernel
theorem dL_law_184 : decode cL_law 184 = .ok (.aload_n 1, 1) := by decide +kernel
theorem dL_law_185 : decode cL_law 185 = .ok (.aload_n 0, 1) := by decide +kernel
theorem dL_law_186 : decode cL_law 186 = .ok (.iload_n 3, 1) := by decide +kernel
theorem dL_law_187 : decode cL_law 187 = .ok (.iconst 1, 1) := by decide +kernel
theorem dL_law_188 : decode cL_law 188 = .ok (.iadd, 1) := by decide +kernel
theorem dL_law_189 : decode cL_law 189 = .ok (.iaload, 1) := by decide +kernel
theorem dL_law_190 : decode cL_law 190 = .ok (.invokevirtual 13, 3) := by decide +kernel
theorem dL_law_193 : decode cL_law 193 = .ok (.aload_n 2, 1) := by decide +kernel
theorem dL_law_194 : decode cL_law 194 = .ok (.aload_n 0, 1) := by decide +kernel
theorem dL_law_195 : decode cL_law 195 = .ok (.iload_n 3, 1) := by decide +kernel
theorem dL_law_196 : decode cL_law 196 = .ok (.iconst 1, 1) := by decide +kernel
theorem dL_law_197 : decode cL_law 197 = .ok (.iadd, 1) := by decide +kernel
theorem dL_law_198 : decode cL_law 198 = .ok (.iaload, 1) := by decide +kernel
theorem dL_law_199 : decode cL_law 199 = .ok (.invokevirtual 17, 3) := by decide +kernel
theorem dL_law_202 : decode cL_law 202 = .ok (.if_icmp .eq 1093, 3) := by decide +kernel
theorem dL_law_205 : decode cL_law 205 = .ok (.iconst 0, 1) := by decide +kernel
theorem dL_law_206 : decode cL_law 206 = .ok (.ireturn, 1) := by decide +kernel
theorem dL_law_207 : decode cL_law 207 = .ok (.aload_n 1, 1) := by decide +kernel
theorem dL_law_208 : decode cL_law 208 = .ok (.aload_n 0, 1) := by decide +kernel
theorem dL_law_209 : decode cL_law 209 = .ok (.iload_n 3, 1) := by decide +kernel
theorem dL_law_210 : decode cL_law 210 = .ok (.iconst 1, 1) := by decide +kernel
theorem dL_law_211 : decode cL_law 211 = .ok (.iadd, 1) := by decide +kernel
theorem dL_law_212 : decode cL_law 212 = .ok (.iaload, 1) := by decide +kernel
theorem dL_law_213 : decode cL_law 213 = .ok (.aload_n 0, 1) := by decide +kernel
theorem dL_law_214 : decode cL_law 214 = .ok (.iload_n 3, 1) := by decide +kernel
theorem dL_law_215 : decode cL_law 215 = .ok (.iconst 2, 1) := by decide +kernel
theorem dL_law_216 : decode cL_law 216 = .ok (.iadd, 1) := by decide +kernel
theorem dL_law_217 : decode cL_law 217 = .ok (.iaload, 1) := by decide +kernel
theorem dL_law_218 : decode cL_law 218 = .ok (.aload_n 0, 1) := by decide +kernel
theorem dL_law_219 : decode cL_law 219 = .ok (.iload_n 3, 1) := by decide +kernel
theorem dL_law_220 : decode cL_law 220 = .ok (.iconst 3, 1) := by decide +kernel
theorem dL_law_221 : decode cL_law 221 = .ok (.iadd, 1) := by decide +kernel
theorem dL_law_222 : decode cL_law 222 = .ok (.iaload, 1) := by decide +kernel
theorem dL_law_223 : decode cL_law 223 = .ok (.invokevirtual 18, 3) := by decide +kernel
theorem dL_law_226 : decode cL_law 226 = .ok (.aload_n 2, 1) := by decide +kernel
theorem dL_law_227 : decode cL_law 227 = .ok (.aload_n 0, 1) := by decide +kernel
theorem dL_law_228 : decode cL_law 228 = .ok (.iload_n 3, 1) := by decide +kernel
theorem dL_law_229 : decode cL_law 229 = .ok (.iconst 1, 1) := by decide +kernel
theorem dL_law_230 : decode cL_law 230 = .ok (.iadd, 1) := by decide +kernel
theorem dL_law_231 : decode cL_law 231 = .ok (.iaload, 1) := by decide +kernel
theorem dL_law_232 : decode cL_law 232 = .ok (.aload_n 0, 1) := by decide +kernel
theorem dL_law_233 : decode cL_law 233 = .ok (.iload_n 3, 1) := by decide +kernel
theorem dL_law_234 : decode cL_law 234 = .ok (.iconst 2, 1) := by decide +kernel
theorem dL_law_235 : decode cL_law 235 = .ok (.iadd, 1) := by decide +kernel
theorem dL_law_236 : decode cL_law 236 = .ok (.iaload, 1) := by decide +kernel
theorem dL_law_237 : decode cL_law 237 = .ok (.aload_n 0, 1) := by decide +kernel
theorem dL_law_238 : decode cL_law 238 = .ok (.iload_n 3, 1) := by decide +kernel
theorem dL_law_239 : decode cL_law 239 = .ok (.iconst 3, 1) := by decide +kernel
theorem dL_law_240 : decode cL_law 240 = .ok (.iadd, 1) := by decide +kernel
theorem dL_law_241 : decode cL_law 241 = .ok (.iaload, 1) := by decide +kernel
theorem dL_law_242 : decode cL_law 242 = .ok (.invokevirtual 22, 3) := by decide +kernel
theorem dL_law_245 : decode cL_law 245 = .ok (.if_icmp .eq 1050, 3) := by decide +kernel
theorem dL_law_248 : decode cL_law 248 = .ok (.iconst 0, 1) := by decide +kernel
theorem dL_law_249 : decode cL_law 249 = .ok (.ireturn, 1) := by decide +kernel
theorem dL_law_250 : decode cL_law 250 = .ok (.aload_n 1, 1) := by decide +kernel
theorem dL_law_251 : decode cL_law 251 = .ok (.aload_n 0, 1) := by decide +kernel
theorem dL_law_252 : decode cL_law 252 = .ok (.iload_n 3, 1) := by decide +kernel
theorem dL_law_253 : decode cL_law 253 = .ok (.iconst 1, 1) := by decide +kernel
theorem dL_law_254 : decode cL_law 254 = .ok (.iadd, 1) := by decide +kernel
theorem dL_law_255 : decode cL_law 255 = .ok (.iaload, 1) := by decide +kernel
theorem dL_law_256 : decode cL_law 256 = .ok (.aload_n 0, 1) := by decide +kernel
theorem dL_law_257 : decode cL_law 257 = .ok (.iload_n 3, 1) := by decide +kernel
theorem dL_law_258 : decode cL_law 258 = .ok (.iconst 2, 1) := by decide +kernel
theorem dL_law_259 : decode cL_law 259 = .ok (.iadd, 1) := by decide +kernel
theorem dL_law_260 : decode cL_law 260 = .ok (.iaload, 1) := by decide +kernel
theorem dL_law_261 : decode cL_law 261 = .ok (.invokevirtual 23, 3) := by decide +kernel
theorem dL_law_264 : decode cL_law 264 = .ok (.aload_n 2, 1) := by decide +kernel
theorem dL_law_265 : decode cL_law 265 = .ok (.aload_n 0, 1) := by decide +kernel
theorem dL_law_266 : decode cL_law 266 = .ok (.iload_n 3, 1) := by decide +kernel
theorem dL_law_267 : decode cL_law 267 = .ok (.iconst 1, 1) := by decide +kernel
theorem dL_law_268 : decode cL_law 268 = .ok (.iadd, 1) := by decide +kernel
theorem dL_law_269 : decode cL_law 269 = .ok (.iaload, 1) := by decide +kernel
theorem dL_law_270 : decode cL_law 270 = .ok (.aload_n 0, 1) := by decide +kernel
theorem dL_law_271 : decode cL_law 271 = .ok (.iload_n 3, 1) := by decide +kernel
theorem dL_law_272 : decode cL_law 272 = .ok (.iconst 2, 1) := by decide +kernel
theorem dL_law_273 : decode cL_law 273 = .ok (.iadd, 1) := by decide +kernel
theorem dL_law_274 : decode cL_law 274 = .ok (.iaload, 1) := by decide +kernel
theorem dL_law_275 : decode cL_law 275 = .ok (.invokevirtual 27, 3) := by decide +kernel
theorem dL_law_278 : decode cL_law 278 = .ok (.if_icmp .eq 1017, 3) := by decide +kernel
theorem dL_law_281 : decode cL_law 281 = .ok (.iconst 0, 1) := by decide +kernel
theorem dL_law_282 : decode cL_law 282 = .ok (.ireturn, 1) := by decide +kernel
theorem dL_law_283 : decode cL_law 283 = .ok (.aload_n 1, 1) := by decide +kernel
theorem dL_law_284 : decode cL_law 284 = .ok (.aload_n 0, 1) := by decide +kernel
theorem dL_law_285 : decode cL_law 285 = .ok (.iload_n 3, 1) := by decide +kernel
theorem dL_law_286 : decode cL_law 286 = .ok (.iconst 1, 1) := by decide +kernel
theorem dL_law_287 : decode cL_law 287 = .ok (.iadd, 1) := by decide +kernel
theorem dL_law_288 : decode cL_law 288 = .ok (.iaload, 1) := by decide +kernel
theorem dL_law_289 : decode cL_law 289 = .ok (.aload_n 0, 1) := by decide +kernel
theorem dL_law_290 : decode cL_law 290 = .ok (.iload_n 3, 1) := by decide +kernel
theorem dL_law_291 : decode cL_law 291 = .ok (.iconst 2, 1) := by decide +kernel
theorem dL_law_292 : decode cL_law 292 = .ok (.iadd, 1) := by decide +kernel
theorem dL_law_293 : decode cL_law 293 = .ok (.iaload, 1) := by decide +kernel
theorem dL_law_294 : decode cL_law 294 = .ok (.invokevirtual 28, 3) := by decide +kernel
theorem dL_law_297 : decode cL_law 297 = .ok (.aload_n 2, 1) := by decide +kernel
theorem dL_law_298 : decode cL_law 298 = .ok (.aload_n 0, 1) := by decide +kernel
theorem dL_law_299 : decode cL_law 299 = .ok (.iload_n 3, 1) := by decide +kernel
theorem dL_law_300 : decode cL_law 300 = .ok (.iconst 1, 1) := by decide +kernel
theorem dL_law_301 : decode cL_law 301 = .ok (.iadd, 1) := by decide +kernel
theorem dL_law_302 : decode cL_law 302 = .ok (.iaload, 1) := by decide +kernel
theorem dL_law_303 : decode cL_law 303 = .ok (.aload_n 0, 1) := by decide +kernel
theorem dL_law_304 : decode cL_law 304 = .ok (.iload_n 3, 1) := by decide +kernel
theorem dL_law_305 : decode cL_law 305 = .ok (.iconst 2, 1) := by decide +kernel
theorem dL_law_306 : decode cL_law 306 = .ok (.iadd, 1) := by decide +kernel
theorem dL_law_307 : decode cL_law 307 = .ok (.iaload, 1) := by decide +kernel
theorem dL_law_308 : decode cL_law 308 = .ok (.invokevirtual 31, 3) := by decide +kernel
theorem dL_law_311 : decode cL_law 311 = .ok (.if_icmp .eq 984, 3) := by decide +kernel
theorem dL_law_314 : decode cL_law 314 = .ok (.iconst 0, 1) := by decide +kernel
theorem dL_law_315 : decode cL_law 315 = .ok (.ireturn, 1) := by decide +kernel
theorem dL_law_316 : decode cL_law 316 = .ok (.aload_n 1, 1) := by decide +kernel
theorem dL_law_317 : decode cL_law 317 = .ok (.aload_n 0, 1) := by decide +kernel
theorem dL_law_318 : decode cL_law 318 = .ok (.iload_n 3, 1) := by decide +kernel
theorem dL_law_319 : decode cL_law 319 = .ok (.iconst 1, 1) := by decide +kernel
theorem dL_law_320 : decode cL_law 320 = .ok (.iadd, 1) := by decide +kernel
theorem dL_law_321 : decode cL_law 321 = .ok (.iaload, 1) := by decide +kernel
theorem dL_law_322 : decode cL_law 322 = .ok (.aload_n 0, 1) := by decide +kernel
theorem dL_law_323 : decode cL_law 323 = .ok (.iload_n 3, 1) := by decide +kernel
theorem dL_law_324 : decode cL_law 324 = .ok (.iconst 2, 1) := by decide +kernel
theorem dL_law_325 : decode cL_law 325 = .ok (.iadd, 1) := by decide +kernel
theorem dL_law_326 : decode cL_law 326 = .ok (.iaload, 1) := by decide +kernel
theorem dL_law_327 : decode cL_law 327 = .ok (.invokevirtual 32, 3) := by decide +kernel
theorem dL_law_330 : decode cL_law 330 = .ok (.aload_n 2, 1) := by decide +kernel
theorem dL_law_331 : decode cL_law 331 = .ok (.aload_n 0, 1) := by decide +kernel
theorem dL_law_332 : decode cL_law 332 = .ok (.iload_n 3, 1) := by decide +kernel
theorem dL_law_333 : decode cL_law 333 = .ok (.iconst 1, 1) := by decide +kernel
theorem dL_law_334 : decode cL_law 334 = .ok (.iadd, 1) := by decide +kernel
theorem dL_law_335 : decode cL_law 335 = .ok (.iaload, 1) := by decide +kernel
theorem dL_law_336 : decode cL_law 336 = .ok (.aload_n 0, 1) := by decide +kernel
theorem dL_law_337 : decode cL_law 337 = .ok (.iload_n 3, 1) := by decide +kernel
theorem dL_law_338 : decode cL_law 338 = .ok (.iconst 2, 1) := by decide +kernel
theorem dL_law_339 : decode cL_law 339 = .ok (.iadd, 1) := by decide +kernel
theorem dL_law_340 : decode cL_law 340 = .ok (.iaload, 1) := by decide +kernel
theorem dL_law_341 : decode cL_law 341 = .ok (.invokevirtual 35, 3) := by decide +kernel
theorem dL_law_344 : decode cL_law 344 = .ok (.if_icmp .eq 951, 3) := by decide +kernel
theorem dL_law_347 : decode cL_law 347 = .ok (.iconst 0, 1) := by decide +kernel
theorem dL_law_348 : decode cL_law 348 = .ok (.ireturn, 1) := by decide +kernel
theorem dL_law_349 : decode cL_law 349 = .ok (.aload_n 1, 1) := by decide +kernel
theorem dL_law_350 : decode cL_law 350 = .ok (.aload_n 0, 1) := by decide +kernel
theorem dL_law_351 : decode cL_law 351 = .ok (.iload_n 3, 1) := by decide +kernel
theorem dL_law_352 : decode cL_law 352 = .ok (.iconst 1, 1) := by decide +kernel
theorem dL_law_353 : decode cL_law 353 = .ok (.iadd, 1) := by decide +kernel
theorem dL_law_354 : decode cL_law 354 = .ok (.iaload, 1) := by decide +kernel
theorem dL_law_355 : decode cL_law 355 = .ok (.invokevirtual 36, 3) := by decide +kernel
theorem dL_law_358 : decode cL_law 358 = .ok (.aload_n 2, 1) := by decide +kernel
theorem dL_law_359 : decode cL_law 359 = .ok (.aload_n 0, 1) := by decide +kernel
theorem dL_law_360 : decode cL_law 360 = .ok (.iload_n 3, 1) := by decide +kernel
theorem dL_law_361 : decode cL_law 361 = .ok (.iconst 1, 1) := by decide +kernel
theorem dL_law_362 : decode cL_law 362 = .ok (.iadd, 1) := by decide +kernel
theorem dL_law_363 : decode cL_law 363 = .ok (.iaload, 1) := by decide +kernel
theorem dL_law_364 : decode cL_law 364 = .ok (.invokevirtual 39, 3) := by decide +kernel
theorem dL_law_367 : decode cL_law 367 = .ok (.if_icmp .eq 928, 3) := by decide +kernel
theorem dL_law_370 : decode cL_law 370 = .ok (.iconst 0, 1) := by decide +kernel
theorem dL_law_371 : decode cL_law 371 = .ok (.ireturn, 1) := by decide +kernel
theorem dL_law_372 : decode cL_law 372 = .ok (.aload_n 1, 1) := by decide +kernel
theorem dL_law_373 : decode cL_law 373 = .ok (.aload_n 0, 1) := by decide +kernel
theorem dL_law_374 : decode cL_law 374 = .ok (.iload_n 3, 1) := by decide +kernel
theorem dL_law_375 : decode cL_law 375 = .ok (.iconst 1, 1) := by decide +kernel
theorem dL_law_376 : decode cL_law 376 = .ok (.iadd, 1) := by decide +kernel
theorem dL_law_377 : decode cL_law 377 = .ok (.iaload, 1) := by decide +kernel
theorem dL_law_378 : decode cL_law 378 = .ok (.invokevirtual 40, 3) := by decide +kernel
theorem dL_law_381 : decode cL_law 381 = .ok (.aload_n 2, 1) := by decide +kernel
theorem dL_law_382 : decode cL_law 382 = .ok (.aload_n 0, 1) := by decide +kernel
theorem dL_law_383 : decode cL_law 383 = .ok (.iload_n 3, 1) := by decide +kernel
theorem dL_law_384 : decode cL_law 384 = .ok (.iconst 1, 1) := by decide +kernel
theorem dL_law_385 : decode cL_law 385 = .ok (.iadd, 1) := by decide +kernel
theorem dL_law_386 : decode cL_law 386 = .ok (.iaload, 1) := by decide +kernel
theorem dL_law_387 : decode cL_law 387 = .ok (.invokevirtual 43, 3) := by decide +kernel
theorem dL_law_390 : decode cL_law 390 = .ok (.if_icmp .eq 905, 3) := by decide +kernel
theorem dL_law_393 : decode cL_law 393 = .ok (.iconst 0, 1) := by decide +kernel
theorem dL_law_394 : decode cL_law 394 = .ok (.ireturn, 1) := by decide +kernel
theorem dL_law_395 : decode cL_law 395 = .ok (.aload_n 1, 1) := by decide +kernel
theorem dL_law_396 : decode cL_law 396 = .ok (.aload_n 0, 1) := by decide +kernel
theorem dL_law_397 : decode cL_law 397 = .ok (.iload_n 3, 1) := by decide +kernel
theorem dL_law_398 : decode cL_law 398 = .ok (.iconst 1, 1) := by decide +kernel
theorem dL_law_399 : decode cL_law 399 = .ok (.iadd, 1) := by decide +kernel
theorem dL_law_400 : decode cL_law 400 = .ok (.iaload, 1) := by decide +kernel
theorem dL_law_401 : decode cL_law 401 = .ok (.invokevirtual 44, 3) := by decide +kernel
theorem dL_law_404 : decode cL_law 404 = .ok (.aload_n 2, 1) := by decide +kernel
theorem dL_law_405 : decode cL_law 405 = .ok (.aload_n 0, 1) := by decide +kernel
theorem dL_law_406 : decode cL_law 406 = .ok (.iload_n 3, 1) := by decide +kernel
theorem dL_law_407 : decode cL_law 407 = .ok (.iconst 1, 1) := by decide +kernel
theorem dL_law_408 : decode cL_law 408 = .ok (.iadd, 1) := by decide +kernel
theorem dL_law_409 : decode cL_law 409 = .ok (.iaload, 1) := by decide +kernel
theorem dL_law_410 : decode cL_law 410 = .ok (.invokevirtual 47, 3) := by decide +kernel
theorem dL_law_413 : decode cL_law 413 = .ok (.if_icmp .eq 882, 3) := by decide +kernel
theorem dL_law_416 : decode cL_law 416 = .ok (.iconst 0, 1) := by decide +kernel
theorem dL_law_417 : decode cL_law 417 = .ok (.ireturn, 1) := by decide +kernel
theorem dL_law_418 : decode cL_law 418 = .ok (.aload_n 1, 1) := by decide +kernel
theorem dL_law_419 : decode cL_law 419 = .ok (.aload_n 0, 1) := by decide +kernel
theorem dL_law_420 : decode cL_law 420 = .ok (.iload_n 3, 1) := by decide +kernel
theorem dL_law_421 : decode cL_law 421 = .ok (.iconst 1, 1) := by decide +kernel
theorem dL_law_422 : decode cL_law 422 = .ok (.iadd, 1) := by decide +kernel
theorem dL_law_423 : decode cL_law 423 = .ok (.iaload, 1) := by decide +kernel
theorem dL_law_424 : decode cL_law 424 = .ok (.invokevirtual 48, 3) := by decide +kernel
theorem dL_law_427 : decode cL_law 427 = .ok (.aload_n 2, 1) := by decide +kernel
theorem dL_law_428 : decode cL_law 428 = .ok (.aload_n 0, 1) := by decide +kernel
theorem dL_law_429 : decode cL_law 429 = .ok (.iload_n 3, 1) := by decide +kernel
theorem dL_law_430 : decode cL_law 430 = .ok (.iconst 1, 1) := by decide +kernel
theorem dL_law_431 : decode cL_law 431 = .ok (.iadd, 1) := by decide +kernel
theorem dL_law_432 : decode cL_law 432 = .ok (.iaload, 1) := by decide +kernel
theorem dL_law_433 : decode cL_law 433 = .ok (.invokevirtual 51, 3) := by decide +kernel
theorem dL_law_436 : decode cL_law 436 = .ok (.if_icmp .eq 859, 3) := by decide +kernel
theorem dL_law_439 : decode cL_law 439 = .ok (.iconst 0, 1) := by decide +kernel
theorem dL_law_440 : decode cL_law 440 = .ok (.ireturn, 1) := by decide +kernel
theorem dL_law_441 : decode cL_law 441 = .ok (.aload_n 1, 1) := by decide +kernel
theorem dL_law_442 : decode cL_law 442 = .ok (.aload_n 0, 1) := by decide +kernel
theorem dL_law_443 : decode cL_law 443 = .ok (.iload_n 3, 1) := by decide +kernel
theorem dL_law_444 : decode cL_law 444 = .ok (.iconst 1, 1) := by decide +kernel
theorem dL_law_445 : decode cL_law 445 = .ok (.iadd, 1) := by decide +kernel
theorem dL_law_446 : decode cL_law 446 = .ok (.iaload, 1) := by decide +kernel
theorem dL_law_447 : decode cL_law 447 = .ok (.invokevirtual 52, 3) := by decide +kernel
theorem dL_law_450 : decode cL_law 450 = .ok (.aload_n 2, 1) := by decide +kernel
theorem dL_law_451 : decode cL_law 451 = .ok (.aload_n 0, 1) := by decide +kernel
theorem dL_law_452 : decode cL_law 452 = .ok (.iload_n 3, 1) := by decide +kernel
theorem dL_law_453 : decode cL_law 453 = .ok (.iconst 1, 1) := by decide +kernel
theorem dL_law_454 : decode cL_law 454 = .ok (.iadd, 1) := by decide +kernel
theorem dL_law_455 : decode cL_law 455 = .ok (.iaload, 1) := by decide +kernel
theorem dL_law_456 : decode cL_law 456 = .ok (.invokevirtual 55, 3) := by decide +kernel
theorem dL_law_459 : decode cL_law 459 = .ok (.if_icmp .eq 836, 3) := by decide +kernel
theorem dL_law_462 : decode cL_law 462 = .ok (.iconst 0, 1) := by decide +kernel
theorem dL_law_463 : decode cL_law 463 = .ok (.ireturn, 1) := by decide +kernel
theorem dL_law_464 : decode cL_law 464 = .ok (.aload_n 1, 1) := by decide +kernel
theorem dL_law_465 : decode cL_law 465 = .ok (.invokevirtual 56, 3) := by decide +kernel
theorem dL_law_468 : decode cL_law 468 = .ok (.aload_n 2, 1) := by decide +kernel
theorem dL_law_469 : decode cL_law 469 = .ok (.invokevirtual 60, 3) := by decide +kernel
theorem dL_law_472 : decode cL_law 472 = .ok (.if_icmp .eq 823, 3) := by decide +kernel
theorem dL_law_475 : decode cL_law 475 = .ok (.iconst 0, 1) := by decide +kernel
theorem dL_law_476 : decode cL_law 476 = .ok (.ireturn, 1) := by decide +kernel
theorem dL_law_477 : decode cL_law 477 = .ok (.aload_n 1, 1) := by decide +kernel
theorem dL_law_478 : decode cL_law 478 = .ok (.aload_n 0, 1) := by decide +kernel
theorem dL_law_479 : decode cL_law 479 = .ok (.iload_n 3, 1) := by decide +kernel
theorem dL_law_480 : decode cL_law 480 = .ok (.iconst 1, 1) := by decide +kernel
theorem dL_law_481 : decode cL_law 481 = .ok (.iadd, 1) := by decide +kernel
theorem dL_law_482 : decode cL_law 482 = .ok (.iaload, 1) := by decide +kernel
theorem dL_law_483 : decode cL_law 483 = .ok (.aload_n 0, 1) := by decide +kernel
theorem dL_law_484 : decode cL_law 484 = .ok (.iload_n 3, 1) := by decide +kernel
theorem dL_law_485 : decode cL_law 485 = .ok (.iconst 2, 1) := by decide +kernel
theorem dL_law_486 : decode cL_law 486 = .ok (.iadd, 1) := by decide +kernel
theorem dL_law_487 : decode cL_law 487 = .ok (.iaload, 1) := by decide +kernel
theorem dL_law_488 : decode cL_law 488 = .ok (.invokevirtual 61, 3) := by decide +kernel
theorem dL_law_491 : decode cL_law 491 = .ok (.aload_n 2, 1) := by decide +kernel
theorem dL_law_492 : decode cL_law 492 = .ok (.aload_n 0, 1) := by decide +kernel
theorem dL_law_493 : decode cL_law 493 = .ok (.iload_n 3, 1) := by decide +kernel
theorem dL_law_494 : decode cL_law 494 = .ok (.iconst 1, 1) := by decide +kernel
theorem dL_law_495 : decode cL_law 495 = .ok (.iadd, 1) := by decide +kernel
theorem dL_law_496 : decode cL_law 496 = .ok (.iaload, 1) := by decide +kernel
theorem dL_law_497 : decode cL_law 497 = .ok (.aload_n 0, 1) := by decide +kernel
theorem dL_law_498 : decode cL_law 498 = .ok (.iload_n 3, 1) := by decide +kernel
theorem dL_law_499 : decode cL_law 499 = .ok (.iconst 2, 1) := by decide +kernel
theorem dL_law_500 : decode cL_law 500 = .ok (.iadd, 1) := by decide +kernel
theorem dL_law_501 : decode cL_law 501 = .ok (.iaload, 1) := by decide +kernel
theorem dL_law_502 : decode cL_law 502 = .ok (.invokevirtual 64, 3) := by decide +kernel
theorem dL_law_505 : decode cL_law 505 = .ok (.if_icmp .eq 790, 3) := by decide +kernel
theorem dL_law_508 : decode cL_law 508 = .ok (.iconst 0, 1) := by decide +kernel
theorem dL_law_509 : decode cL_law 509 = .ok (.ireturn, 1) := by decide +kernel
theorem dL_law_510 : decode cL_law 510 = .ok (.aload_n 1, 1) := by decide +kernel
theorem dL_law_511 : decode cL_law 511 = .ok (.aload_n 0, 1) := by decide +kernel
theorem dL_law_512 : decode cL_law 512 = .ok (.iload_n 3, 1) := by decide +kernel
theorem dL_law_513 : decode cL_law 513 = .ok (.iconst 1, 1) := by decide +kernel
theorem dL_law_514 : decode cL_law 514 = .ok (.iadd, 1) := by decide +kernel
theorem dL_law_515 : decode cL_law 515 = .ok (.iaload, 1) := by decide +kernel
theorem dL_law_516 : decode cL_law 516 = .ok (.aload_n 0, 1) := by decide +kernel
theorem dL_law_517 : decode cL_law 517 = .ok (.iload_n 3, 1) := by decide +kernel
theorem dL_law_518 : decode cL_law 518 = .ok (.iconst 2, 1) := by decide +kernel
theorem dL_law_519 : decode cL_law 519 = .ok (.iadd, 1) := by decide +kernel
theorem dL_law_520 : decode cL_law 520 = .ok (.iaload, 1) := by decide +kernel
theorem dL_law_521 : decode cL_law 521 = .ok (.invokevirtual 65, 3) := by decide +kernel
theorem dL_law_524 : decode cL_law 524 = .ok (.aload_n 2, 1) := by decide +kernel
theorem dL_law_525 : decode cL_law 525 = .ok (.aload_n 0, 1) := by decide +kernel
theorem dL_law_526 : decode cL_law 526 = .ok (.iload_n 3, 1) := by decide +kernel
theorem dL_law_527 : decode cL_law 527 = .ok (.iconst 1, 1) := by decide +kernel
theorem dL_law_528 : decode cL_law 528 = .ok (.iadd, 1) := by decide +kernel
theorem dL_law_529 : decode cL_law 529 = .ok (.iaload, 1) := by decide +kernel
theorem dL_law_530 : decode cL_law 530 = .ok (.aload_n 0, 1) := by decide +kernel
theorem dL_law_531 : decode cL_law 531 = .ok (.iload_n 3, 1) := by decide +kernel
theorem dL_law_532 : decode cL_law 532 = .ok (.iconst 2, 1) := by decide +kernel
theorem dL_law_533 : decode cL_law 533 = .ok (.iadd, 1) := by decide +kernel
theorem dL_law_534 : decode cL_law 534 = .ok (.iaload, 1) := by decide +kernel
theorem dL_law_535 : decode cL_law 535 = .ok (.invokevirtual 68, 3) := by decide +kernel
theorem dL_law_538 : decode cL_law 538 = .ok (.if_icmp .eq 757, 3) := by decide +kernel
theorem dL_law_541 : decode cL_law 541 = .ok (.iconst 0, 1) := by decide +kernel
theorem dL_law_542 : decode cL_law 542 = .ok (.ireturn, 1) := by decide +kernel
theorem dL_law_543 : decode cL_law 543 = .ok (.aload_n 1, 1) := by decide +kernel
theorem dL_law_544 : decode cL_law 544 = .ok (.aload_n 0, 1) := by decide +kernel
theorem dL_law_545 : decode cL_law 545 = .ok (.iload_n 3, 1) := by decide +kernel
theorem dL_law_546 : decode cL_law 546 = .ok (.iconst 1, 1) := by decide +kernel
theorem dL_law_547 : decode cL_law 547 = .ok (.iadd, 1) := by decide +kernel
theorem dL_law_548 : decode cL_law 548 = .ok (.iaload, 1) := by decide +kernel
theorem dL_law_549 : decode cL_law 549 = .ok (.aload_n 0, 1) := by decide +kernel
theorem dL_law_550 : decode cL_law 550 = .ok (.iload_n 3, 1) := by decide +kernel
theorem dL_law_551 : decode cL_law 551 = .ok (.iconst 2, 1) := by decide +kernel
theorem dL_law_552 : decode cL_law 552 = .ok (.iadd, 1) := by decide +kernel
theorem dL_law_553 : decode cL_law 553 = .ok (.iaload, 1) := by decide +kernel
theorem dL_law_554 : decode cL_law 554 = .ok (.invokevirtual 69, 3) := by decide +kernel
theorem dL_law_557 : decode cL_law 557 = .ok (.aload_n 2, 1) := by decide +kernel
theorem dL_law_558 : decode cL_law 558 = .ok (.aload_n 0, 1) := by decide +kernel
theorem dL_law_559 : decode cL_law 559 = .ok (.iload_n 3, 1) := by decide +kernel
theorem dL_law_560 : decode cL_law 560 = .ok (.iconst 1, 1) := by decide +kernel
theorem dL_law_561 : decode cL_law 561 = .ok (.iadd, 1) := by decide +kernel
theorem dL_law_562 : decode cL_law 562 = .ok (.iaload, 1) := by decide +kernel
theorem dL_law_563 : decode cL_law 563 = .ok (.aload_n 0, 1) := by decide +kernel
theorem dL_law_564 : decode cL_law 564 = .ok (.iload_n 3, 1) := by decide +kernel
theorem dL_law_565 : decode cL_law 565 = .ok (.iconst 2, 1) := by decide +kernel
theorem dL_law_566 : decode cL_law 566 = .ok (.iadd, 1) := by decide +kernel
theorem dL_law_567 : decode cL_law 567 = .ok (.iaload, 1) := by decide +kernel
theorem dL_law_568 : decode cL_law 568 = .ok (.invokevirtual 72, 3) := by decide +kernel
theorem dL_law_571 : decode cL_law 571 = .ok (.if_icmp .eq 724, 3) := by decide +kernel
theorem dL_law_574 : decode cL_law 574 = .ok (.iconst 0, 1) := by decide +kernel
theorem dL_law_575 : decode cL_law 575 = .ok (.ireturn, 1) := by decide +kernel
theorem dL_law_576 : decode cL_law 576 = .ok (.aload_n 1, 1) := by decide +kernel
theorem dL_law_577 : decode cL_law 577 = .ok (.aload_n 0, 1) := by decide +kernel
theorem dL_law_578 : decode cL_law 578 = .ok (.iload_n 3, 1) := by decide +kernel
theorem dL_law_579 : decode cL_law 579 = .ok (.iconst 1, 1) := by decide +kernel
theorem dL_law_580 : decode cL_law 580 = .ok (.iadd, 1) := by decide +kernel
theorem dL_law_581 : decode cL_law 581 = .ok (.iaload, 1) := by decide +kernel
theorem dL_law_582 : decode cL_law 582 = .ok (.aload_n 0, 1) := by decide +kernel
theorem dL_law_583 : decode cL_law 583 = .ok (.iload_n 3, 1) := by decide +kernel
theorem dL_law_584 : decode cL_law 584 = .ok (.iconst 2, 1) := by decide +kernel
theorem dL_law_585 : decode cL_law 585 = .ok (.iadd, 1) := by decide +kernel
theorem dL_law_586 : decode cL_law 586 = .ok (.iaload, 1) := by decide +kernel
theorem dL_law_587 : decode cL_law 587 = .ok (.invokevirtual 73, 3) := by decide +kernel
theorem dL_law_590 : decode cL_law 590 = .ok (.aload_n 2, 1) := by decide +kernel
theorem dL_law_591 : decode cL_law 591 = .ok (.aload_n 0, 1) := by decide +kernel
theorem dL_law_592 : decode cL_law 592 = .ok (.iload_n 3, 1) := by decide +kernel
theorem dL_law_593 : decode cL_law 593 = .ok (.iconst 1, 1) := by decide +kernel
theorem dL_law_594 : decode cL_law 594 = .ok (.iadd, 1) := by decide +kernel
theorem dL_law_595 : decode cL_law 595 = .ok (.iaload, 1) := by decide +kernel
theorem dL_law_596 : decode cL_law 596 = .ok (.aload_n 0, 1) := by decide +kernel
theorem dL_law_597 : decode cL_law 597 = .ok (.iload_n 3, 1) := by decide +kernel
theorem dL_law_598 : decode cL_law 598 = .ok (.iconst 2, 1) := by decide +kernel
theorem dL_law_599 : decode cL_law 599 = .ok (.iadd, 1) := by decide +kernel
theorem dL_law_600 : decode cL_law 600 = .ok (.iaload, 1) := by decide +kernel
theorem dL_law_601 : decode cL_law 601 = .ok (.invokevirtual 76, 3) := by decide +kernel
theorem dL_law_604 : decode cL_law 604 = .ok (.if_icmp .eq 691, 3) := by decide +kernel
theorem dL_law_607 : decode cL_law 607 = .ok (.iconst 0, 1) := by decide +kernel
theorem dL_law_608 : decode cL_law 608 = .ok (.ireturn, 1) := by decide +kernel
theorem dL_law_609 : decode cL_law 609 = .ok (.aload_n 1, 1) := by decide +kernel
theorem dL_law_610 : decode cL_law 610 = .ok (.aload_n 0, 1) := by decide +kernel
theorem dL_law_611 : decode cL_law 611 = .ok (.iload_n 3, 1) := by decide +kernel
theorem dL_law_612 : decode cL_law 612 = .ok (.iconst 1, 1) := by decide +kernel
theorem dL_law_613 : decode cL_law 613 = .ok (.iadd, 1) := by decide +kernel
theorem dL_law_614 : decode cL_law 614 = .ok (.iaload, 1) := by decide +kernel
theorem dL_law_615 : decode cL_law 615 = .ok (.aload_n 0, 1) := by decide +kernel
theorem dL_law_616 : decode cL_law 616 = .ok (.iload_n 3, 1) := by decide +kernel
theorem dL_law_617 : decode cL_law 617 = .ok (.iconst 2, 1) := by decide +kernel
theorem dL_law_618 : decode cL_law 618 = .ok (.iadd, 1) := by decide +kernel
theorem dL_law_619 : decode cL_law 619 = .ok (.iaload, 1) := by decide +kernel
theorem dL_law_620 : decode cL_law 620 = .ok (.invokevirtual 77, 3) := by decide +kernel
theorem dL_law_623 : decode cL_law 623 = .ok (.aload_n 2, 1) := by decide +kernel
theorem dL_law_624 : decode cL_law 624 = .ok (.aload_n 0, 1) := by decide +kernel
theorem dL_law_625 : decode cL_law 625 = .ok (.iload_n 3, 1) := by decide +kernel
theorem dL_law_626 : decode cL_law 626 = .ok (.iconst 1, 1) := by decide +kernel
theorem dL_law_627 : decode cL_law 627 = .ok (.iadd, 1) := by decide +kernel
theorem dL_law_628 : decode cL_law 628 = .ok (.iaload, 1) := by decide +kernel
theorem dL_law_629 : decode cL_law 629 = .ok (.aload_n 0, 1) := by decide +kernel
theorem dL_law_630 : decode cL_law 630 = .ok (.iload_n 3, 1) := by decide +kernel
theorem dL_law_631 : decode cL_law 631 = .ok (.iconst 2, 1) := by decide +kernel
theorem dL_law_632 : decode cL_law 632 = .ok (.iadd, 1) := by decide +kernel
theorem dL_law_633 : decode cL_law 633 = .ok (.iaload, 1) := by decide +kernel
theorem dL_law_634 : decode cL_law 634 = .ok (.invokevirtual 80, 3) := by decide +kernel
theorem dL_law_637 : decode cL_law 637 = .ok (.if_icmp .eq 658, 3) := by decide +kernel
theorem dL_law_640 : decode cL_law 640 = .ok (.iconst 0, 1) := by decide +kernel
theorem dL_law_641 : decode cL_law 641 = .ok (.ireturn, 1) := by decide +kernel
theorem dL_law_642 : decode cL_law 642 = .ok (.aload_n 1, 1) := by decide +kernel
theorem dL_law_643 : decode cL_law 643 = .ok (.aload_n 0, 1) := by decide +kernel
theorem dL_law_644 : decode cL_law 644 = .ok (.iload_n 3, 1) := by decide +kernel
theorem dL_law_645 : decode cL_law 645 = .ok (.iconst 1, 1) := by decide +kernel
theorem dL_law_646 : decode cL_law 646 = .ok (.iadd, 1) := by decide +kernel
theorem dL_law_647 : decode cL_law 647 = .ok (.iaload, 1) := by decide +kernel
theorem dL_law_648 : decode cL_law 648 = .ok (.aload_n 0, 1) := by decide +kernel
theorem dL_law_649 : decode cL_law 649 = .ok (.iload_n 3, 1) := by decide +kernel
theorem dL_law_650 : decode cL_law 650 = .ok (.iconst 2, 1) := by decide +kernel
theorem dL_law_651 : decode cL_law 651 = .ok (.iadd, 1) := by decide +kernel
theorem dL_law_652 : decode cL_law 652 = .ok (.iaload, 1) := by decide +kernel
theorem dL_law_653 : decode cL_law 653 = .ok (.invokevirtual 81, 3) := by decide +kernel
theorem dL_law_656 : decode cL_law 656 = .ok (.aload_n 2, 1) := by decide +kernel
theorem dL_law_657 : decode cL_law 657 = .ok (.aload_n 0, 1) := by decide +kernel
theorem dL_law_658 : decode cL_law 658 = .ok (.iload_n 3, 1) := by decide +kernel
theorem dL_law_659 : decode cL_law 659 = .ok (.iconst 1, 1) := by decide +kernel
theorem dL_law_660 : decode cL_law 660 = .ok (.iadd, 1) := by decide +kernel
theorem dL_law_661 : decode cL_law 661 = .ok (.iaload, 1) := by decide +kernel
theorem dL_law_662 : decode cL_law 662 = .ok (.aload_n 0, 1) := by decide +kernel
theorem dL_law_663 : decode cL_law 663 = .ok (.iload_n 3, 1) := by decide +kernel
theorem dL_law_664 : decode cL_law 664 = .ok (.iconst 2, 1) := by decide +kernel
theorem dL_law_665 : decode cL_law 665 = .ok (.iadd, 1) := by decide +kernel
theorem dL_law_666 : decode cL_law 666 = .ok (.iaload, 1) := by decide +kernel
theorem dL_law_667 : decode cL_law 667 = .ok (.invokevirtual 85, 3) := by decide +kernel
theorem dL_law_670 : decode cL_law 670 = .ok (.lcmp, 1) := by decide +kernel
theorem dL_law_671 : decode cL_law 671 = .ok (.ifCond .eq 624, 3) := by decide +kernel
theorem dL_law_674 : decode cL_law 674 = .ok (.iconst 0, 1) := by decide +kernel
theorem dL_law_675 : decode cL_law 675 = .ok (.ireturn, 1) := by decide +kernel
theorem dL_law_676 : decode cL_law 676 = .ok (.aload_n 1, 1) := by decide +kernel
theorem dL_law_677 : decode cL_law 677 = .ok (.aload_n 0, 1) := by decide +kernel
theorem dL_law_678 : decode cL_law 678 = .ok (.iload_n 3, 1) := by decide +kernel
theorem dL_law_679 : decode cL_law 679 = .ok (.iconst 1, 1) := by decide +kernel
theorem dL_law_680 : decode cL_law 680 = .ok (.iadd, 1) := by decide +kernel
theorem dL_law_681 : decode cL_law 681 = .ok (.iaload, 1) := by decide +kernel
theorem dL_law_682 : decode cL_law 682 = .ok (.invokevirtual 86, 3) := by decide +kernel
theorem dL_law_685 : decode cL_law 685 = .ok (.aload_n 2, 1) := by decide +kernel
theorem dL_law_686 : decode cL_law 686 = .ok (.aload_n 0, 1) := by decide +kernel
theorem dL_law_687 : decode cL_law 687 = .ok (.iload_n 3, 1) := by decide +kernel
theorem dL_law_688 : decode cL_law 688 = .ok (.iconst 1, 1) := by decide +kernel
theorem dL_law_689 : decode cL_law 689 = .ok (.iadd, 1) := by decide +kernel
theorem dL_law_690 : decode cL_law 690 = .ok (.iaload, 1) := by decide +kernel
theorem dL_law_691 : decode cL_law 691 = .ok (.invokevirtual 90, 3) := by decide +kernel
theorem dL_law_694 : decode cL_law 694 = .ok (.lcmp, 1) := by decide +kernel
theorem dL_law_695 : decode cL_law 695 = .ok (.ifCond .eq 600, 3) := by decide +kernel
theorem dL_law_698 : decode cL_law 698 = .ok (.iconst 0, 1) := by decide +kernel
theorem dL_law_699 : decode cL_law 699 = .ok (.ireturn, 1) := by decide +kernel
theorem dL_law_700 : decode cL_law 700 = .ok (.aload_n 1, 1) := by decide +kernel
theorem dL_law_701 : decode cL_law 701 = .ok (.aload_n 0, 1) := by decide +kernel
theorem dL_law_702 : decode cL_law 702 = .ok (.iload_n 3, 1) := by decide +kernel
theorem dL_law_703 : decode cL_law 703 = .ok (.iconst 1, 1) := by decide +kernel
theorem dL_law_704 : decode cL_law 704 = .ok (.iadd, 1) := by decide +kernel
theorem dL_law_705 : decode cL_law 705 = .ok (.iaload, 1) := by decide +kernel
theorem dL_law_706 : decode cL_law 706 = .ok (.invokevirtual 91, 3) := by decide +kernel
theorem dL_law_709 : decode cL_law 709 = .ok (.aload_n 2, 1) := by decide +kernel
theorem dL_law_710 : decode cL_law 710 = .ok (.aload_n 0, 1) := by decide +kernel
theorem dL_law_711 : decode cL_law 711 = .ok (.iload_n 3, 1) := by decide +kernel
theorem dL_law_712 : decode cL_law 712 = .ok (.iconst 1, 1) := by decide +kernel
theorem dL_law_713 : decode cL_law 713 = .ok (.iadd, 1) := by decide +kernel
theorem dL_law_714 : decode cL_law 714 = .ok (.iaload, 1) := by decide +kernel
theorem dL_law_715 : decode cL_law 715 = .ok (.invokevirtual 94, 3) := by decide +kernel
theorem dL_law_718 : decode cL_law 718 = .ok (.lcmp, 1) := by decide +kernel
theorem dL_law_719 : decode cL_law 719 = .ok (.ifCond .eq 576, 3) := by decide +kernel
theorem dL_law_722 : decode cL_law 722 = .ok (.iconst 0, 1) := by decide +kernel
theorem dL_law_723 : decode cL_law 723 = .ok (.ireturn, 1) := by decide +kernel
theorem dL_law_724 : decode cL_law 724 = .ok (.aload_n 1, 1) := by decide +kernel
theorem dL_law_725 : decode cL_law 725 = .ok (.aload_n 0, 1) := by decide +kernel
theorem dL_law_726 : decode cL_law 726 = .ok (.iload_n 3, 1) := by decide +kernel
theorem dL_law_727 : decode cL_law 727 = .ok (.iconst 1, 1) := by decide +kernel
theorem dL_law_728 : decode cL_law 728 = .ok (.iadd, 1) := by decide +kernel
theorem dL_law_729 : decode cL_law 729 = .ok (.iaload, 1) := by decide +kernel
theorem dL_law_730 : decode cL_law 730 = .ok (.aload_n 0, 1) := by decide +kernel
theorem dL_law_731 : decode cL_law 731 = .ok (.iload_n 3, 1) := by decide +kernel
theorem dL_law_732 : decode cL_law 732 = .ok (.iconst 2, 1) := by decide +kernel
theorem dL_law_733 : decode cL_law 733 = .ok (.iadd, 1) := by decide +kernel
theorem dL_law_734 : decode cL_law 734 = .ok (.iaload, 1) := by decide +kernel
theorem dL_law_735 : decode cL_law 735 = .ok (.invokevirtual 95, 3) := by decide +kernel
theorem dL_law_738 : decode cL_law 738 = .ok (.aload_n 2, 1) := by decide +kernel
theorem dL_law_739 : decode cL_law 739 = .ok (.aload_n 0, 1) := by decide +kernel
theorem dL_law_740 : decode cL_law 740 = .ok (.iload_n 3, 1) := by decide +kernel
theorem dL_law_741 : decode cL_law 741 = .ok (.iconst 1, 1) := by decide +kernel
theorem dL_law_742 : decode cL_law 742 = .ok (.iadd, 1) := by decide +kernel
theorem dL_law_743 : decode cL_law 743 = .ok (.iaload, 1) := by decide +kernel
theorem dL_law_744 : decode cL_law 744 = .ok (.aload_n 0, 1) := by decide +kernel
theorem dL_law_745 : decode cL_law 745 = .ok (.iload_n 3, 1) := by decide +kernel
theorem dL_law_746 : decode cL_law 746 = .ok (.iconst 2, 1) := by decide +kernel
theorem dL_law_747 : decode cL_law 747 = .ok (.iadd, 1) := by decide +kernel
theorem dL_law_748 : decode cL_law 748 = .ok (.iaload, 1) := by decide +kernel
theorem dL_law_749 : decode cL_law 749 = .ok (.invokevirtual 98, 3) := by decide +kernel
theorem dL_law_752 : decode cL_law 752 = .ok (.lcmp, 1) := by decide +kernel
theorem dL_law_753 : decode cL_law 753 = .ok (.ifCond .eq 542, 3) := by decide +kernel
theorem dL_law_756 : decode cL_law 756 = .ok (.iconst 0, 1) := by decide +kernel
theorem dL_law_757 : decode cL_law 757 = .ok (.ireturn, 1) := by decide +kernel
theorem dL_law_758 : decode cL_law 758 = .ok (.aload_n 1, 1) := by decide +kernel
theorem dL_law_759 : decode cL_law 759 = .ok (.aload_n 0, 1) := by decide +kernel
theorem dL_law_760 : decode cL_law 760 = .ok (.iload_n 3, 1) := by decide +kernel
theorem dL_law_761 : decode cL_law 761 = .ok (.iconst 1, 1) := by decide +kernel
theorem dL_law_762 : decode cL_law 762 = .ok (.iadd, 1) := by decide +kernel
theorem dL_law_763 : decode cL_law 763 = .ok (.iaload, 1) := by decide +kernel
theorem dL_law_764 : decode cL_law 764 = .ok (.aload_n 0, 1) := by decide +kernel
theorem dL_law_765 : decode cL_law 765 = .ok (.iload_n 3, 1) := by decide +kernel
theorem dL_law_766 : decode cL_law 766 = .ok (.iconst 2, 1) := by decide +kernel
theorem dL_law_767 : decode cL_law 767 = .ok (.iadd, 1) := by decide +kernel
theorem dL_law_768 : decode cL_law 768 = .ok (.iaload, 1) := by decide +kernel
theorem dL_law_769 : decode cL_law 769 = .ok (.invokevirtual 99, 3) := by decide +kernel
theorem dL_law_772 : decode cL_law 772 = .ok (.aload_n 2, 1) := by decide +kernel
theorem dL_law_773 : decode cL_law 773 = .ok (.aload_n 0, 1) := by decide +kernel
theorem dL_law_774 : decode cL_law 774 = .ok (.iload_n 3, 1) := by decide +kernel
theorem dL_law_775 : decode cL_law 775 = .ok (.iconst 1, 1) := by decide +kernel
theorem dL_law_776 : decode cL_law 776 = .ok (.iadd, 1) := by decide +kernel
theorem dL_law_777 : decode cL_law 777 = .ok (.iaload, 1) := by decide +kernel
theorem dL_law_778 : decode cL_law 778 = .ok (.aload_n 0, 1) := by decide +kernel
theorem dL_law_779 : decode cL_law 779 = .ok (.iload_n 3, 1) := by decide +kernel
theorem dL_law_780 : decode cL_law 780 = .ok (.iconst 2, 1) := by decide +kernel
theorem dL_law_781 : decode cL_law 781 = .ok (.iadd, 1) := by decide +kernel
theorem dL_law_782 : decode cL_law 782 = .ok (.iaload, 1) := by decide +kernel
theorem dL_law_783 : decode cL_law 783 = .ok (.invokevirtual 102, 3) := by decide +kernel
theorem dL_law_786 : decode cL_law 786 = .ok (.lcmp, 1) := by decide +kernel
theorem dL_law_787 : decode cL_law 787 = .ok (.ifCond .eq 508, 3) := by decide +kernel
theorem dL_law_790 : decode cL_law 790 = .ok (.iconst 0, 1) := by decide +kernel
theorem dL_law_791 : decode cL_law 791 = .ok (.ireturn, 1) := by decide +kernel
theorem dL_law_792 : decode cL_law 792 = .ok (.aload_n 1, 1) := by decide +kernel
theorem dL_law_793 : decode cL_law 793 = .ok (.aload_n 0, 1) := by decide +kernel
theorem dL_law_794 : decode cL_law 794 = .ok (.iload_n 3, 1) := by decide +kernel
theorem dL_law_795 : decode cL_law 795 = .ok (.iconst 1, 1) := by decide +kernel
theorem dL_law_796 : decode cL_law 796 = .ok (.iadd, 1) := by decide +kernel
theorem dL_law_797 : decode cL_law 797 = .ok (.iaload, 1) := by decide +kernel
theorem dL_law_798 : decode cL_law 798 = .ok (.aload_n 0, 1) := by decide +kernel
theorem dL_law_799 : decode cL_law 799 = .ok (.iload_n 3, 1) := by decide +kernel
theorem dL_law_800 : decode cL_law 800 = .ok (.iconst 2, 1) := by decide +kernel
theorem dL_law_801 : decode cL_law 801 = .ok (.iadd, 1) := by decide +kernel
theorem dL_law_802 : decode cL_law 802 = .ok (.iaload, 1) := by decide +kernel
theorem dL_law_803 : decode cL_law 803 = .ok (.invokevirtual 103, 3) := by decide +kernel
theorem dL_law_806 : decode cL_law 806 = .ok (.aload_n 2, 1) := by decide +kernel
theorem dL_law_807 : decode cL_law 807 = .ok (.aload_n 0, 1) := by decide +kernel
theorem dL_law_808 : decode cL_law 808 = .ok (.iload_n 3, 1) := by decide +kernel
theorem dL_law_809 : decode cL_law 809 = .ok (.iconst 1, 1) := by decide +kernel
theorem dL_law_810 : decode cL_law 810 = .ok (.iadd, 1) := by decide +kernel
theorem dL_law_811 : decode cL_law 811 = .ok (.iaload, 1) := by decide +kernel
theorem dL_law_812 : decode cL_law 812 = .ok (.aload_n 0, 1) := by decide +kernel
theorem dL_law_813 : decode cL_law 813 = .ok (.iload_n 3, 1) := by decide +kernel
theorem dL_law_814 : decode cL_law 814 = .ok (.iconst 2, 1) := by decide +kernel
theorem dL_law_815 : decode cL_law 815 = .ok (.iadd, 1) := by decide +kernel
theorem dL_law_816 : decode cL_law 816 = .ok (.iaload, 1) := by decide +kernel
theorem dL_law_817 : decode cL_law 817 = .ok (.invokevirtual 106, 3) := by decide +kernel
theorem dL_law_820 : decode cL_law 820 = .ok (.lcmp, 1) := by decide +kernel
theorem dL_law_821 : decode cL_law 821 = .ok (.ifCond .eq 474, 3) := by decide +kernel
theorem dL_law_824 : decode cL_law 824 = .ok (.iconst 0, 1) := by decide +kernel
theorem dL_law_825 : decode cL_law 825 = .ok (.ireturn, 1) := by decide +kernel
theorem dL_law_826 : decode cL_law 826 = .ok (.aload_n 1, 1) := by decide +kernel
theorem dL_law_827 : decode cL_law 827 = .ok (.aload_n 0, 1) := by decide +kernel
theorem dL_law_828 : decode cL_law 828 = .ok (.iload_n 3, 1) := by decide +kernel
theorem dL_law_829 : decode cL_law 829 = .ok (.iconst 1, 1) := by decide +kernel
theorem dL_law_830 : decode cL_law 830 = .ok (.iadd, 1) := by decide +kernel
theorem dL_law_831 : decode cL_law 831 = .ok (.iaload, 1) := by decide +kernel
theorem dL_law_832 : decode cL_law 832 = .ok (.aload_n 0, 1) := by decide +kernel
theorem dL_law_833 : decode cL_law 833 = .ok (.iload_n 3, 1) := by decide +kernel
theorem dL_law_834 : decode cL_law 834 = .ok (.iconst 2, 1) := by decide +kernel
theorem dL_law_835 : decode cL_law 835 = .ok (.iadd, 1) := by decide +kernel
theorem dL_law_836 : decode cL_law 836 = .ok (.iaload, 1) := by decide +kernel
theorem dL_law_837 : decode cL_law 837 = .ok (.invokevirtual 107, 3) := by decide +kernel
theorem dL_law_840 : decode cL_law 840 = .ok (.aload_n 2, 1) := by decide +kernel
theorem dL_law_841 : decode cL_law 841 = .ok (.aload_n 0, 1) := by decide +kernel
theorem dL_law_842 : decode cL_law 842 = .ok (.iload_n 3, 1) := by decide +kernel
theorem dL_law_843 : decode cL_law 843 = .ok (.iconst 1, 1) := by decide +kernel
theorem dL_law_844 : decode cL_law 844 = .ok (.iadd, 1) := by decide +kernel
theorem dL_law_845 : decode cL_law 845 = .ok (.iaload, 1) := by decide +kernel
theorem dL_law_846 : decode cL_law 846 = .ok (.aload_n 0, 1) := by decide +kernel
theorem dL_law_847 : decode cL_law 847 = .ok (.iload_n 3, 1) := by decide +kernel
theorem dL_law_848 : decode cL_law 848 = .ok (.iconst 2, 1) := by decide +kernel
theorem dL_law_849 : decode cL_law 849 = .ok (.iadd, 1) := by decide +kernel
theorem dL_law_850 : decode cL_law 850 = .ok (.iaload, 1) := by decide +kernel
theorem dL_law_851 : decode cL_law 851 = .ok (.invokevirtual 110, 3) := by decide +kernel
theorem dL_law_854 : decode cL_law 854 = .ok (.lcmp, 1) := by decide +kernel
theorem dL_law_855 : decode cL_law 855 = .ok (.ifCond .eq 440, 3) := by decide +kernel
theorem dL_law_858 : decode cL_law 858 = .ok (.iconst 0, 1) := by decide +kernel
theorem dL_law_859 : decode cL_law 859 = .ok (.ireturn, 1) := by decide +kernel
theorem dL_law_860 : decode cL_law 860 = .ok (.aload_n 1, 1) := by decide +kernel
theorem dL_law_861 : decode cL_law 861 = .ok (.aload_n 0, 1) := by decide +kernel
theorem dL_law_862 : decode cL_law 862 = .ok (.iload_n 3, 1) := by decide +kernel
theorem dL_law_863 : decode cL_law 863 = .ok (.iconst 1, 1) := by decide +kernel
theorem dL_law_864 : decode cL_law 864 = .ok (.iadd, 1) := by decide +kernel
theorem dL_law_865 : decode cL_law 865 = .ok (.iaload, 1) := by decide +kernel
theorem dL_law_866 : decode cL_law 866 = .ok (.aload_n 0, 1) := by decide +kernel
theorem dL_law_867 : decode cL_law 867 = .ok (.iload_n 3, 1) := by decide +kernel
theorem dL_law_868 : decode cL_law 868 = .ok (.iconst 2, 1) := by decide +kernel
theorem dL_law_869 : decode cL_law 869 = .ok (.iadd, 1) := by decide +kernel
theorem dL_law_870 : decode cL_law 870 = .ok (.iaload, 1) := by decide +kernel
theorem dL_law_871 : decode cL_law 871 = .ok (.i2l, 1) := by decide +kernel
theorem dL_law_872 : decode cL_law 872 = .ok (.bipush 32, 2) := by decide +kernel
theorem dL_law_874 : decode cL_law 874 = .ok (.lshl, 1) := by decide +kernel
theorem dL_law_875 : decode cL_law 875 = .ok (.aload_n 0, 1) := by decide +kernel
theorem dL_law_876 : decode cL_law 876 = .ok (.iload_n 3, 1) := by decide +kernel
theorem dL_law_877 : decode cL_law 877 = .ok (.iconst 3, 1) := by decide +kernel
theorem dL_law_878 : decode cL_law 878 = .ok (.iadd, 1) := by decide +kernel
theorem dL_law_879 : decode cL_law 879 = .ok (.iaload, 1) := by decide +kernel
theorem dL_law_880 : decode cL_law 880 = .ok (.i2l, 1) := by decide +kernel
theorem dL_law_881 : decode cL_law 881 = .ok (.ldc2_w 111, 3) := by decide +kernel
theorem dL_law_884 : decode cL_law 884 = .ok (.land, 1) := by decide +kernel
theorem dL_law_885 : decode cL_law 885 = .ok (.lor, 1) := by decide +kernel
theorem dL_law_886 : decode cL_law 886 = .ok (.invokevirtual 113, 3) := by decide +kernel
theorem dL_law_889 : decode cL_law 889 = .ok (.aload_n 2, 1) := by decide +kernel
theorem dL_law_890 : decode cL_law 890 = .ok (.aload_n 0, 1) := by decide +kernel
theorem dL_law_891 : decode cL_law 891 = .ok (.iload_n 3, 1) := by decide +kernel
theorem dL_law_892 : decode cL_law 892 = .ok (.iconst 1, 1) := by decide +kernel
theorem dL_law_893 : decode cL_law 893 = .ok (.iadd, 1) := by decide +kernel
theorem dL_law_894 : decode cL_law 894 = .ok (.iaload, 1) := by decide +kernel
theorem dL_law_895 : decode cL_law 895 = .ok (.aload_n 0, 1) := by decide +kernel
theorem dL_law_896 : decode cL_law 896 = .ok (.iload_n 3, 1) := by decide +kernel
theorem dL_law_897 : decode cL_law 897 = .ok (.iconst 2, 1) := by decide +kernel
theorem dL_law_898 : decode cL_law 898 = .ok (.iadd, 1) := by decide +kernel
theorem dL_law_899 : decode cL_law 899 = .ok (.iaload, 1) := by decide +kernel
theorem dL_law_900 : decode cL_law 900 = .ok (.i2l, 1) := by decide +kernel
theorem dL_law_901 : decode cL_law 901 = .ok (.bipush 32, 2) := by decide +kernel
theorem dL_law_903 : decode cL_law 903 = .ok (.lshl, 1) := by decide +kernel
theorem dL_law_904 : decode cL_law 904 = .ok (.aload_n 0, 1) := by decide +kernel
theorem dL_law_905 : decode cL_law 905 = .ok (.iload_n 3, 1) := by decide +kernel
theorem dL_law_906 : decode cL_law 906 = .ok (.iconst 3, 1) := by decide +kernel
theorem dL_law_907 : decode cL_law 907 = .ok (.iadd, 1) := by decide +kernel
theorem dL_law_908 : decode cL_law 908 = .ok (.iaload, 1) := by decide +kernel
theorem dL_law_909 : decode cL_law 909 = .ok (.i2l, 1) := by decide +kernel
theorem dL_law_910 : decode cL_law 910 = .ok (.ldc2_w 111, 3) := by decide +kernel
theorem dL_law_913 : decode cL_law 913 = .ok (.land, 1) := by decide +kernel
theorem dL_law_914 : decode cL_law 914 = .ok (.lor, 1) := by decide +kernel
theorem dL_law_915 : decode cL_law 915 = .ok (.invokevirtual 117, 3) := by decide +kernel
theorem dL_law_918 : decode cL_law 918 = .ok (.if_icmp .eq 377, 3) := by decide +kernel
theorem dL_law_921 : decode cL_law 921 = .ok (.iconst 0, 1) := by decide +kernel
theorem dL_law_922 : decode cL_law 922 = .ok (.ireturn, 1) := by decide +kernel
theorem dL_law_923 : decode cL_law 923 = .ok (.aload_n 1, 1) := by decide +kernel
theorem dL_law_924 : decode cL_law 924 = .ok (.aload_n 0, 1) := by decide +kernel
theorem dL_law_925 : decode cL_law 925 = .ok (.iload_n 3, 1) := by decide +kernel
theorem dL_law_926 : decode cL_law 926 = .ok (.iconst 1, 1) := by decide +kernel
theorem dL_law_927 : decode cL_law 927 = .ok (.iadd, 1) := by decide +kernel
theorem dL_law_928 : decode cL_law 928 = .ok (.iaload, 1) := by decide +kernel
theorem dL_law_929 : decode cL_law 929 = .ok (.aload_n 0, 1) := by decide +kernel
theorem dL_law_930 : decode cL_law 930 = .ok (.iload_n 3, 1) := by decide +kernel
theorem dL_law_931 : decode cL_law 931 = .ok (.iconst 2, 1) := by decide +kernel
theorem dL_law_932 : decode cL_law 932 = .ok (.iadd, 1) := by decide +kernel
theorem dL_law_933 : decode cL_law 933 = .ok (.iaload, 1) := by decide +kernel
theorem dL_law_934 : decode cL_law 934 = .ok (.aload_n 0, 1) := by decide +kernel
theorem dL_law_935 : decode cL_law 935 = .ok (.iload_n 3, 1) := by decide +kernel
theorem dL_law_936 : decode cL_law 936 = .ok (.iconst 3, 1) := by decide +kernel
theorem dL_law_937 : decode cL_law 937 = .ok (.iadd, 1) := by decide +kernel
theorem dL_law_938 : decode cL_law 938 = .ok (.iaload, 1) := by decide +kernel
theorem dL_law_939 : decode cL_law 939 = .ok (.invokevirtual 118, 3) := by decide +kernel
theorem dL_law_942 : decode cL_law 942 = .ok (.aload_n 2, 1) := by decide +kernel
theorem dL_law_943 : decode cL_law 943 = .ok (.aload_n 0, 1) := by decide +kernel
theorem dL_law_944 : decode cL_law 944 = .ok (.iload_n 3, 1) := by decide +kernel
theorem dL_law_945 : decode cL_law 945 = .ok (.iconst 1, 1) := by decide +kernel
theorem dL_law_946 : decode cL_law 946 = .ok (.iadd, 1) := by decide +kernel
theorem dL_law_947 : decode cL_law 947 = .ok (.iaload, 1) := by decide +kernel
theorem dL_law_948 : decode cL_law 948 = .ok (.aload_n 0, 1) := by decide +kernel
theorem dL_law_949 : decode cL_law 949 = .ok (.iload_n 3, 1) := by decide +kernel
theorem dL_law_950 : decode cL_law 950 = .ok (.iconst 2, 1) := by decide +kernel
theorem dL_law_951 : decode cL_law 951 = .ok (.iadd, 1) := by decide +kernel
theorem dL_law_952 : decode cL_law 952 = .ok (.iaload, 1) := by decide +kernel
theorem dL_law_953 : decode cL_law 953 = .ok (.aload_n 0, 1) := by decide +kernel
theorem dL_law_954 : decode cL_law 954 = .ok (.iload_n 3, 1) := by decide +kernel
theorem dL_law_955 : decode cL_law 955 = .ok (.iconst 3, 1) := by decide +kernel
theorem dL_law_956 : decode cL_law 956 = .ok (.iadd, 1) := by decide +kernel
theorem dL_law_957 : decode cL_law 957 = .ok (.iaload, 1) := by decide +kernel
theorem dL_law_958 : decode cL_law 958 = .ok (.invokevirtual 121, 3) := by decide +kernel
theorem dL_law_961 : decode cL_law 961 = .ok (.if_icmp .eq 334, 3) := by decide +kernel
theorem dL_law_964 : decode cL_law 964 = .ok (.iconst 0, 1) := by decide +kernel
theorem dL_law_965 : decode cL_law 965 = .ok (.ireturn, 1) := by decide +kernel
theorem dL_law_966 : decode cL_law 966 = .ok (.aload_n 1, 1) := by decide +kernel
theorem dL_law_967 : decode cL_law 967 = .ok (.aload_n 0, 1) := by decide +kernel
theorem dL_law_968 : decode cL_law 968 = .ok (.iload_n 3, 1) := by decide +kernel
theorem dL_law_969 : decode cL_law 969 = .ok (.iconst 1, 1) := by decide +kernel
theorem dL_law_970 : decode cL_law 970 = .ok (.iadd, 1) := by decide +kernel
theorem dL_law_971 : decode cL_law 971 = .ok (.iaload, 1) := by decide +kernel
theorem dL_law_972 : decode cL_law 972 = .ok (.aload_n 0, 1) := by decide +kernel
theorem dL_law_973 : decode cL_law 973 = .ok (.iload_n 3, 1) := by decide +kernel
theorem dL_law_974 : decode cL_law 974 = .ok (.iconst 2, 1) := by decide +kernel
theorem dL_law_975 : decode cL_law 975 = .ok (.iadd, 1) := by decide +kernel
theorem dL_law_976 : decode cL_law 976 = .ok (.iaload, 1) := by decide +kernel
theorem dL_law_977 : decode cL_law 977 = .ok (.aload_n 0, 1) := by decide +kernel
theorem dL_law_978 : decode cL_law 978 = .ok (.iload_n 3, 1) := by decide +kernel
theorem dL_law_979 : decode cL_law 979 = .ok (.iconst 3, 1) := by decide +kernel
theorem dL_law_980 : decode cL_law 980 = .ok (.iadd, 1) := by decide +kernel
theorem dL_law_981 : decode cL_law 981 = .ok (.iaload, 1) := by decide +kernel
theorem dL_law_982 : decode cL_law 982 = .ok (.invokevirtual 122, 3) := by decide +kernel
theorem dL_law_985 : decode cL_law 985 = .ok (.aload_n 2, 1) := by decide +kernel
theorem dL_law_986 : decode cL_law 986 = .ok (.aload_n 0, 1) := by decide +kernel
theorem dL_law_987 : decode cL_law 987 = .ok (.iload_n 3, 1) := by decide +kernel
theorem dL_law_988 : decode cL_law 988 = .ok (.iconst 1, 1) := by decide +kernel
theorem dL_law_989 : decode cL_law 989 = .ok (.iadd, 1) := by decide +kernel
theorem dL_law_990 : decode cL_law 990 = .ok (.iaload, 1) := by decide +kernel
theorem dL_law_991 : decode cL_law 991 = .ok (.aload_n 0, 1) := by decide +kernel
theorem dL_law_992 : decode cL_law 992 = .ok (.iload_n 3, 1) := by decide +kernel
theorem dL_law_993 : decode cL_law 993 = .ok (.iconst 2, 1) := by decide +kernel
theorem dL_law_994 : decode cL_law 994 = .ok (.iadd, 1) := by decide +kernel
theorem dL_law_995 : decode cL_law 995 = .ok (.iaload, 1) := by decide +kernel
theorem dL_law_996 : decode cL_law 996 = .ok (.aload_n 0, 1) := by decide +kernel
theorem dL_law_997 : decode cL_law 997 = .ok (.iload_n 3, 1) := by decide +kernel
theorem dL_law_998 : decode cL_law 998 = .ok (.iconst 3, 1) := by decide +kernel
theorem dL_law_999 : decode cL_law 999 = .ok (.iadd, 1) := by decide +kernel
theorem dL_law_1000 : decode cL_law 1000 = .ok (.iaload, 1) := by decide +kernel
theorem dL_law_1001 : decode cL_law 1001 = .ok (.invokevirtual 125, 3) := by decide +kernel
theorem dL_law_1004 : decode cL_law 1004 = .ok (.if_icmp .eq 291, 3) := by decide +kernel
theorem dL_law_1007 : decode cL_law 1007 = .ok (.iconst 0, 1) := by decide +kernel
theorem dL_law_1008 : decode cL_law 1008 = .ok (.ireturn, 1) := by decide +kernel
theorem dL_law_1009 : decode cL_law 1009 = .ok (.aload_n 1, 1) := by decide +kernel
theorem dL_law_1010 : decode cL_law 1010 = .ok (.aload_n 0, 1) := by decide +kernel
theorem dL_law_1011 : decode cL_law 1011 = .ok (.iload_n 3, 1) := by decide +kernel
theorem dL_law_1012 : decode cL_law 1012 = .ok (.iconst 1, 1) := by decide +kernel
theorem dL_law_1013 : decode cL_law 1013 = .ok (.iadd, 1) := by decide +kernel
theorem dL_law_1014 : decode cL_law 1014 = .ok (.iaload, 1) := by decide +kernel
theorem dL_law_1015 : decode cL_law 1015 = .ok (.aload_n 0, 1) := by decide +kernel
theorem dL_law_1016 : decode cL_law 1016 = .ok (.iload_n 3, 1) := by decide +kernel
theorem dL_law_1017 : decode cL_law 1017 = .ok (.iconst 2, 1) := by decide +kernel
theorem dL_law_1018 : decode cL_law 1018 = .ok (.iadd, 1) := by decide +kernel
theorem dL_law_1019 : decode cL_law 1019 = .ok (.iaload, 1) := by decide +kernel
theorem dL_law_1020 : decode cL_law 1020 = .ok (.aload_n 0, 1) := by decide +kernel
theorem dL_law_1021 : decode cL_law 1021 = .ok (.iload_n 3, 1) := by decide +kernel
theorem dL_law_1022 : decode cL_law 1022 = .ok (.iconst 3, 1) := by decide +kernel
theorem dL_law_1023 : decode cL_law 1023 = .ok (.iadd, 1) := by decide +kernel
theorem dL_law_1024 : decode cL_law 1024 = .ok (.iaload, 1) := by decide +kernel
theorem dL_law_1025 : decode cL_law 1025 = .ok (.i2l, 1) := by decide +kernel
theorem dL_law_1026 : decode cL_law 1026 = .ok (.bipush 32, 2) := by decide +kernel
theorem dL_law_1028 : decode cL_law 1028 = .ok (.lshl, 1) := by decide +kernel
theorem dL_law_1029 : decode cL_law 1029 = .ok (.aload_n 0, 1) := by decide +kernel
theorem dL_law_1030 : decode cL_law 1030 = .ok (.iload_n 3, 1) := by decide +kernel
theorem dL_law_1031 : decode cL_law 1031 = .ok (.iconst 4, 1) := by decide +kernel
theorem dL_law_1032 : decode cL_law 1032 = .ok (.iadd, 1) := by decide +kernel
theorem dL_law_1033 : decode cL_law 1033 = .ok (.iaload, 1) := by decide +kernel
theorem dL_law_1034 : decode cL_law 1034 = .ok (.i2l, 1) := by decide +kernel
theorem dL_law_1035 : decode cL_law 1035 = .ok (.ldc2_w 111, 3) := by decide +kernel
theorem dL_law_1038 : decode cL_law 1038 = .ok (.land, 1) := by decide +kernel
theorem dL_law_1039 : decode cL_law 1039 = .ok (.lor, 1) := by decide +kernel
theorem dL_law_1040 : decode cL_law 1040 = .ok (.invokevirtual 126, 3) := by decide +kernel
theorem dL_law_1043 : decode cL_law 1043 = .ok (.aload_n 2, 1) := by decide +kernel
theorem dL_law_1044 : decode cL_law 1044 = .ok (.aload_n 0, 1) := by decide +kernel
theorem dL_law_1045 : decode cL_law 1045 = .ok (.iload_n 3, 1) := by decide +kernel
theorem dL_law_1046 : decode cL_law 1046 = .ok (.iconst 1, 1) := by decide +kernel
theorem dL_law_1047 : decode cL_law 1047 = .ok (.iadd, 1) := by decide +kernel
theorem dL_law_1048 : decode cL_law 1048 = .ok (.iaload, 1) := by decide +kernel
theorem dL_law_1049 : decode cL_law 1049 = .ok (.aload_n 0, 1) := by decide +kernel
theorem dL_law_1050 : decode cL_law 1050 = .ok (.iload_n 3, 1) := by decide +kernel
theorem dL_law_1051 : decode cL_law 1051 = .ok (.iconst 2, 1) := by decide +kernel
theorem dL_law_1052 : decode cL_law 1052 = .ok (.iadd, 1) := by decide +kernel
theorem dL_law_1053 : decode cL_law 1053 = .ok (.iaload, 1) := by decide +kernel
theorem dL_law_1054 : decode cL_law 1054 = .ok (.aload_n 0, 1) := by decide +kernel
theorem dL_law_1055 : decode cL_law 1055 = .ok (.iload_n 3, 1) := by decide +kernel
theorem dL_law_1056 : decode cL_law 1056 = .ok (.iconst 3, 1) := by decide +kernel
theorem dL_law_1057 : decode cL_law 1057 = .ok (.iadd, 1) := by decide +kernel
theorem dL_law_1058 : decode cL_law 1058 = .ok (.iaload, 1) := by decide +kernel
theorem dL_law_1059 : decode cL_law 1059 = .ok (.i2l, 1) := by decide +kernel
theorem dL_law_1060 : decode cL_law 1060 = .ok (.bipush 32, 2) := by decide +kernel
theorem dL_law_1062 : decode cL_law 1062 = .ok (.lshl, 1) := by decide +kernel
theorem dL_law_1063 : decode cL_law 1063 = .ok (.aload_n 0, 1) := by decide +kernel
theorem dL_law_1064 : decode cL_law 1064 = .ok (.iload_n 3, 1) := by decide +kernel
theorem dL_law_1065 : decode cL_law 1065 = .ok (.iconst 4, 1) := by decide +kernel
theorem dL_law_1066 : decode cL_law 1066 = .ok (.iadd, 1) := by decide +kernel
theorem dL_law_1067 : decode cL_law 1067 = .ok (.iaload, 1) := by decide +kernel
theorem dL_law_1068 : decode cL_law 1068 = .ok (.i2l, 1) := by decide +kernel
theorem dL_law_1069 : decode cL_law 1069 = .ok (.ldc2_w 111, 3) := by decide +kernel
theorem dL_law_1072 : decode cL_law 1072 = .ok (.land, 1) := by decide +kernel
theorem dL_law_1073 : decode cL_law 1073 = .ok (.lor, 1) := by decide +kernel
theorem dL_law_1074 : decode cL_law 1074 = .ok (.invokevirtual 130, 3) := by decide +kernel
theorem dL_law_1077 : decode cL_law 1077 = .ok (.if_icmp .eq 218, 3) := by decide +kernel
theorem dL_law_1080 : decode cL_law 1080 = .ok (.iconst 0, 1) := by decide +kernel
theorem dL_law_1081 : decode cL_law 1081 = .ok (.ireturn, 1) := by decide +kernel
theorem dL_law_1082 : decode cL_law 1082 = .ok (.aload_n 1, 1) := by decide +kernel
theorem dL_law_1083 : decode cL_law 1083 = .ok (.aload_n 0, 1) := by decide +kernel
theorem dL_law_1084 : decode cL_law 1084 = .ok (.iload_n 3, 1) := by decide +kernel
theorem dL_law_1085 : decode cL_law 1085 = .ok (.iconst 1, 1) := by decide +kernel
theorem dL_law_1086 : decode cL_law 1086 = .ok (.iadd, 1) := by decide +kernel
theorem dL_law_1087 : decode cL_law 1087 = .ok (.iaload, 1) := by decide +kernel
theorem dL_law_1088 : decode cL_law 1088 = .ok (.aload_n 0, 1) := by decide +kernel
theorem dL_law_1089 : decode cL_law 1089 = .ok (.iload_n 3, 1) := by decide +kernel
theorem dL_law_1090 : decode cL_law 1090 = .ok (.iconst 2, 1) := by decide +kernel
theorem dL_law_1091 : decode cL_law 1091 = .ok (.iadd, 1) := by decide +kernel
theorem dL_law_1092 : decode cL_law 1092 = .ok (.iaload, 1) := by decide +kernel
theorem dL_law_1093 : decode cL_law 1093 = .ok (.invokevirtual 131, 3) := by decide +kernel
theorem dL_law_1096 : decode cL_law 1096 = .ok (.aload_n 2, 1) := by decide +kernel
theorem dL_law_1097 : decode cL_law 1097 = .ok (.aload_n 0, 1) := by decide +kernel
theorem dL_law_1098 : decode cL_law 1098 = .ok (.iload_n 3, 1) := by decide +kernel
theorem dL_law_1099 : decode cL_law 1099 = .ok (.iconst 1, 1) := by decide +kernel
theorem dL_law_1100 : decode cL_law 1100 = .ok (.iadd, 1) := by decide +kernel
theorem dL_law_1101 : decode cL_law 1101 = .ok (.iaload, 1) := by decide +kernel
theorem dL_law_1102 : decode cL_law 1102 = .ok (.aload_n 0, 1) := by decide +kernel
theorem dL_law_1103 : decode cL_law 1103 = .ok (.iload_n 3, 1) := by decide +kernel
theorem dL_law_1104 : decode cL_law 1104 = .ok (.iconst 2, 1) := by decide +kernel
theorem dL_law_1105 : decode cL_law 1105 = .ok (.iadd, 1) := by decide +kernel
theorem dL_law_1106 : decode cL_law 1106 = .ok (.iaload, 1) := by decide +kernel
theorem dL_law_1107 : decode cL_law 1107 = .ok (.invokevirtual 134, 3) := by decide +kernel
theorem dL_law_1110 : decode cL_law 1110 = .ok (.lcmp, 1) := by decide +kernel
theorem dL_law_1111 : decode cL_law 1111 = .ok (.ifCond .eq 184, 3) := by decide +kernel
theorem dL_law_1114 : decode cL_law 1114 = .ok (.iconst 0, 1) := by decide +kernel
theorem dL_law_1115 : decode cL_law 1115 = .ok (.ireturn, 1) := by decide +kernel
theorem dL_law_1116 : decode cL_law 1116 = .ok (.aload_n 1, 1) := by decide +kernel
theorem dL_law_1117 : decode cL_law 1117 = .ok (.aload_n 0, 1) := by decide +kernel
theorem dL_law_1118 : decode cL_law 1118 = .ok (.iload_n 3, 1) := by decide +kernel
theorem dL_law_1119 : decode cL_law 1119 = .ok (.iconst 1, 1) := by decide +kernel
theorem dL_law_1120 : decode cL_law 1120 = .ok (.iadd, 1) := by decide +kernel
theorem dL_law_1121 : decode cL_law 1121 = .ok (.iaload, 1) := by decide +kernel
theorem dL_law_1122 : decode cL_law 1122 = .ok (.aload_n 0, 1) := by decide +kernel
theorem dL_law_1123 : decode cL_law 1123 = .ok (.iload_n 3, 1) := by decide +kernel
theorem dL_law_1124 : decode cL_law 1124 = .ok (.iconst 2, 1) := by decide +kernel
theorem dL_law_1125 : decode cL_law 1125 = .ok (.iadd, 1) := by decide +kernel
theorem dL_law_1126 : decode cL_law 1126 = .ok (.iaload, 1) := by decide +kernel
theorem dL_law_1127 : decode cL_law 1127 = .ok (.aload_n 0, 1) := by decide +kernel
theorem dL_law_1128 : decode cL_law 1128 = .ok (.iload_n 3, 1) := by decide +kernel
theorem dL_law_1129 : decode cL_law 1129 = .ok (.iconst 3, 1) := by decide +kernel
theorem dL_law_1130 : decode cL_law 1130 = .ok (.iadd, 1) := by decide +kernel
theorem dL_law_1131 : decode cL_law 1131 = .ok (.iaload, 1) := by decide +kernel
theorem dL_law_1132 : decode cL_law 1132 = .ok (.invokevirtual 135, 3) := by decide +kernel
theorem dL_law_1135 : decode cL_law 1135 = .ok (.aload_n 2, 1) := by decide +kernel
theorem dL_law_1136 : decode cL_law 1136 = .ok (.aload_n 0, 1) := by decide +kernel
theorem dL_law_1137 : decode cL_law 1137 = .ok (.iload_n 3, 1) := by decide +kernel
theorem dL_law_1138 : decode cL_law 1138 = .ok (.iconst 1, 1) := by decide +kernel
theorem dL_law_1139 : decode cL_law 1139 = .ok (.iadd, 1) := by decide +kernel
theorem dL_law_1140 : decode cL_law 1140 = .ok (.iaload, 1) := by decide +kernel
theorem dL_law_1141 : decode cL_law 1141 = .ok (.aload_n 0, 1) := by decide +kernel
theorem dL_law_1142 : decode cL_law 1142 = .ok (.iload_n 3, 1) := by decide +kernel
theorem dL_law_1143 : decode cL_law 1143 = .ok (.iconst 2, 1) := by decide +kernel
theorem dL_law_1144 : decode cL_law 1144 = .ok (.iadd, 1) := by decide +kernel
theorem dL_law_1145 : decode cL_law 1145 = .ok (.iaload, 1) := by decide +kernel
theorem dL_law_1146 : decode cL_law 1146 = .ok (.aload_n 0, 1) := by decide +kernel
theorem dL_law_1147 : decode cL_law 1147 = .ok (.iload_n 3, 1) := by decide +kernel
theorem dL_law_1148 : decode cL_law 1148 = .ok (.iconst 3, 1) := by decide +kernel
theorem dL_law_1149 : decode cL_law 1149 = .ok (.iadd, 1) := by decide +kernel
theorem dL_law_1150 : decode cL_law 1150 = .ok (.iaload, 1) := by decide +kernel
theorem dL_law_1151 : decode cL_law 1151 = .ok (.invokevirtual 138, 3) := by decide +kernel
theorem dL_law_1154 : decode cL_law 1154 = .ok (.if_icmp .eq 141, 3) := by decide +kernel
theorem dL_law_1157 : decode cL_law 1157 = .ok (.iconst 0, 1) := by decide +kernel
theorem dL_law_1158 : decode cL_law 1158 = .ok (.ireturn, 1) := by decide +kernel
theorem dL_law_1159 : decode cL_law 1159 = .ok (.aload_n 1, 1) := by decide +kernel
theorem dL_law_1160 : decode cL_law 1160 = .ok (.aload_n 0, 1) := by decide +kernel
theorem dL_law_1161 : decode cL_law 1161 = .ok (.iload_n 3, 1) := by decide +kernel
theorem dL_law_1162 : decode cL_law 1162 = .ok (.iconst 1, 1) := by decide +kernel
theorem dL_law_1163 : decode cL_law 1163 = .ok (.iadd, 1) := by decide +kernel
theorem dL_law_1164 : decode cL_law 1164 = .ok (.iaload, 1) := by decide +kernel
theorem dL_law_1165 : decode cL_law 1165 = .ok (.aload_n 0, 1) := by decide +kernel
theorem dL_law_1166 : decode cL_law 1166 = .ok (.iload_n 3, 1) := by decide +kernel
theorem dL_law_1167 : decode cL_law 1167 = .ok (.iconst 2, 1) := by decide +kernel
theorem dL_law_1168 : decode cL_law 1168 = .ok (.iadd, 1) := by decide +kernel
theorem dL_law_1169 : decode cL_law 1169 = .ok (.iaload, 1) := by decide +kernel
theorem dL_law_1170 : decode cL_law 1170 = .ok (.aload_n 0, 1) := by decide +kernel
theorem dL_law_1171 : decode cL_law 1171 = .ok (.iload_n 3, 1) := by decide +kernel
theorem dL_law_1172 : decode cL_law 1172 = .ok (.iconst 3, 1) := by decide +kernel
theorem dL_law_1173 : decode cL_law 1173 = .ok (.iadd, 1) := by decide +kernel
theorem dL_law_1174 : decode cL_law 1174 = .ok (.iaload, 1) := by decide +kernel
theorem dL_law_1175 : decode cL_law 1175 = .ok (.invokevirtual 139, 3) := by decide +kernel
theorem dL_law_1178 : decode cL_law 1178 = .ok (.aload_n 2, 1) := by decide +kernel
theorem dL_law_1179 : decode cL_law 1179 = .ok (.aload_n 0, 1) := by decide +kernel
theorem dL_law_1180 : decode cL_law 1180 = .ok (.iload_n 3, 1) := by decide +kernel
theorem dL_law_1181 : decode cL_law 1181 = .ok (.iconst 1, 1) := by decide +kernel
theorem dL_law_1182 : decode cL_law 1182 = .ok (.iadd, 1) := by decide +kernel
theorem dL_law_1183 : decode cL_law 1183 = .ok (.iaload, 1) := by decide +kernel
theorem dL_law_1184 : decode cL_law 1184 = .ok (.aload_n 0, 1) := by decide +kernel
theorem dL_law_1185 : decode cL_law 1185 = .ok (.iload_n 3, 1) := by decide +kernel
theorem dL_law_1186 : decode cL_law 1186 = .ok (.iconst 2, 1) := by decide +kernel
theorem dL_law_1187 : decode cL_law 1187 = .ok (.iadd, 1) := by decide +kernel
theorem dL_law_1188 : decode cL_law 1188 = .ok (.iaload, 1) := by decide +kernel
theorem dL_law_1189 : decode cL_law 1189 = .ok (.aload_n 0, 1) := by decide +kernel
theorem dL_law_1190 : decode cL_law 1190 = .ok (.iload_n 3, 1) := by decide +kernel
theorem dL_law_1191 : decode cL_law 1191 = .ok (.iconst 3, 1) := by decide +kernel
theorem dL_law_1192 : decode cL_law 1192 = .ok (.iadd, 1) := by decide +kernel
theorem dL_law_1193 : decode cL_law 1193 = .ok (.iaload, 1) := by decide +kernel
theorem dL_law_1194 : decode cL_law 1194 = .ok (.invokevirtual 142, 3) := by decide +kernel
theorem dL_law_1197 : decode cL_law 1197 = .ok (.if_icmp .eq 98, 3) := by decide +kernel
theorem dL_law_1200 : decode cL_law 1200 = .ok (.iconst 0, 1) := by decide +kernel
theorem dL_law_1201 : decode cL_law 1201 = .ok (.ireturn, 1) := by decide +kernel
theorem dL_law_1202 : decode cL_law 1202 = .ok (.aload_n 1, 1) := by decide +kernel
theorem dL_law_1203 : decode cL_law 1203 = .ok (.aload_n 0, 1) := by decide +kernel
theorem dL_law_1204 : decode cL_law 1204 = .ok (.iload_n 3, 1) := by decide +kernel
theorem dL_law_1205 : decode cL_law 1205 = .ok (.iconst 1, 1) := by decide +kernel
theorem dL_law_1206 : decode cL_law 1206 = .ok (.iadd, 1) := by decide +kernel
theorem dL_law_1207 : decode cL_law 1207 = .ok (.iaload, 1) := by decide +kernel
theorem dL_law_1208 : decode cL_law 1208 = .ok (.aload_n 0, 1) := by decide +kernel
theorem dL_law_1209 : decode cL_law 1209 = .ok (.iload_n 3, 1) := by decide +kernel
theorem dL_law_1210 : decode cL_law 1210 = .ok (.iconst 2, 1) := by decide +kernel
theorem dL_law_1211 : decode cL_law 1211 = .ok (.iadd, 1) := by decide +kernel
theorem dL_law_1212 : decode cL_law 1212 = .ok (.iaload, 1) := by decide +kernel
theorem dL_law_1213 : decode cL_law 1213 = .ok (.aload_n 0, 1) := by decide +kernel
theorem dL_law_1214 : decode cL_law 1214 = .ok (.iload_n 3, 1) := by decide +kernel
theorem dL_law_1215 : decode cL_law 1215 = .ok (.iconst 3, 1) := by decide +kernel
theorem dL_law_1216 : decode cL_law 1216 = .ok (.iadd, 1) := by decide +kernel
theorem dL_law_1217 : decode cL_law 1217 = .ok (.iaload, 1) := by decide +kernel
theorem dL_law_1218 : decode cL_law 1218 = .ok (.invokevirtual 143, 3) := by decide +kernel
theorem dL_law_1221 : decode cL_law 1221 = .ok (.aload_n 2, 1) := by decide +kernel
theorem dL_law_1222 : decode cL_law 1222 = .ok (.aload_n 0, 1) := by decide +kernel
theorem dL_law_1223 : decode cL_law 1223 = .ok (.iload_n 3, 1) := by decide +kernel
theorem dL_law_1224 : decode cL_law 1224 = .ok (.iconst 1, 1) := by decide +kernel
theorem dL_law_1225 : decode cL_law 1225 = .ok (.iadd, 1) := by decide +kernel
theorem dL_law_1226 : decode cL_law 1226 = .ok (.iaload, 1) := by decide +kernel
theorem dL_law_1227 : decode cL_law 1227 = .ok (.aload_n 0, 1) := by decide +kernel
theorem dL_law_1228 : decode cL_law 1228 = .ok (.iload_n 3, 1) := by decide +kernel
theorem dL_law_1229 : decode cL_law 1229 = .ok (.iconst 2, 1) := by decide +kernel
theorem dL_law_1230 : decode cL_law 1230 = .ok (.iadd, 1) := by decide +kernel
theorem dL_law_1231 : decode cL_law 1231 = .ok (.iaload, 1) := by decide +kernel
theorem dL_law_1232 : decode cL_law 1232 = .ok (.aload_n 0, 1) := by decide +kernel
theorem dL_law_1233 : decode cL_law 1233 = .ok (.iload_n 3, 1) := by decide +kernel
theorem dL_law_1234 : decode cL_law 1234 = .ok (.iconst 3, 1) := by decide +kernel
theorem dL_law_1235 : decode cL_law 1235 = .ok (.iadd, 1) := by decide +kernel
theorem dL_law_1236 : decode cL_law 1236 = .ok (.iaload, 1) := by decide +kernel
theorem dL_law_1237 : decode cL_law 1237 = .ok (.invokevirtual 147, 3) := by decide +kernel
theorem dL_law_1240 : decode cL_law 1240 = .ok (.lcmp, 1) := by decide +kernel
theorem dL_law_1241 : decode cL_law 1241 = .ok (.ifCond .eq 54, 3) := by decide +kernel
theorem dL_law_1244 : decode cL_law 1244 = .ok (.iconst 0, 1) := by decide +kernel
theorem dL_law_1245 : decode cL_law 1245 = .ok (.ireturn, 1) := by decide +kernel
theorem dL_law_1246 : decode cL_law 1246 = .ok (.aload_n 1, 1) := by decide +kernel
theorem dL_law_1247 : decode cL_law 1247 = .ok (.invokevirtual 148, 3) := by decide +kernel
theorem dL_law_1250 : decode cL_law 1250 = .ok (.aload_n 2, 1) := by decide +kernel
theorem dL_law_1251 : decode cL_law 1251 = .ok (.invokevirtual 151, 3) := by decide +kernel
theorem dL_law_1254 : decode cL_law 1254 = .ok (.if_icmp .eq 41, 3) := by decide +kernel
theorem dL_law_1257 : decode cL_law 1257 = .ok (.iconst 0, 1) := by decide +kernel
theorem dL_law_1258 : decode cL_law 1258 = .ok (.ireturn, 1) := by decide +kernel
theorem dL_law_1259 : decode cL_law 1259 = .ok (.aload_n 1, 1) := by decide +kernel
theorem dL_law_1260 : decode cL_law 1260 = .ok (.invokevirtual 152, 3) := by decide +kernel
theorem dL_law_1263 : decode cL_law 1263 = .ok (.aload_n 2, 1) := by decide +kernel
theorem dL_law_1264 : decode cL_law 1264 = .ok (.invokevirtual 155, 3) := by decide +kernel
theorem dL_law_1267 : decode cL_law 1267 = .ok (.if_icmp .eq 28, 3) := by decide +kernel
theorem dL_law_1270 : decode cL_law 1270 = .ok (.iconst 0, 1) := by decide +kernel
theorem dL_law_1271 : decode cL_law 1271 = .ok (.ireturn, 1) := by decide +kernel
theorem dL_law_1272 : decode cL_law 1272 = .ok (.aload_n 1, 1) := by decide +kernel
theorem dL_law_1273 : decode cL_law 1273 = .ok (.aload_n 0, 1) := by decide +kernel
theorem dL_law_1274 : decode cL_law 1274 = .ok (.iload_n 3, 1) := by decide +kernel
theorem dL_law_1275 : decode cL_law 1275 = .ok (.iconst 1, 1) := by decide +kernel
theorem dL_law_1276 : decode cL_law 1276 = .ok (.iadd, 1) := by decide +kernel
theorem dL_law_1277 : decode cL_law 1277 = .ok (.iaload, 1) := by decide +kernel
theorem dL_law_1278 : decode cL_law 1278 = .ok (.invokevirtual 156, 3) := by decide +kernel
theorem dL_law_1281 : decode cL_law 1281 = .ok (.aload_n 2, 1) := by decide +kernel
theorem dL_law_1282 : decode cL_law 1282 = .ok (.aload_n 0, 1) := by decide +kernel
theorem dL_law_1283 : decode cL_law 1283 = .ok (.iload_n 3, 1) := by decide +kernel
theorem dL_law_1284 : decode cL_law 1284 = .ok (.iconst 1, 1) := by decide +kernel
theorem dL_law_1285 : decode cL_law 1285 = .ok (.iadd, 1) := by decide +kernel
theorem dL_law_1286 : decode cL_law 1286 = .ok (.iaload, 1) := by decide +kernel
theorem dL_law_1287 : decode cL_law 1287 = .ok (.invokevirtual 159, 3) := by decide +kernel
theorem dL_law_1290 : decode cL_law 1290 = .ok (.if_icmp .eq 5, 3) := by decide +kernel
theorem dL_law_1293 : decode cL_law 1293 = .ok (.iconst 0, 1) := by decide +kernel
theorem dL_law_1294 : decode cL_law 1294 = .ok (.ireturn, 1) := by decide +kernel
theorem dL_law_1295 : decode cL_law 1295 = .ok (.iinc 3 5, 3) := by decide +kernel
theorem dL_law_1298 : decode cL_law 1298 = .ok (.goto (-1280), 3) := by decide +kernel
theorem dL_law_1301 : decode cL_law 1301 = .ok (.iconst 1, 1) := by decide +kernel
theorem dL_law_1302 : decode cL_law 1302 = .ok (.ireturn, 1) := by decide +kernel
abbrev vwCl : List vw_C := [(RX0, TX0, 1), (RX1, TX1, 4), (RX2, TX2, 2), (RX3, TX3, 2), (RX4, TX4, 11), (RX5, TX5, 3), (RX6, TX6, 2), (RX7, TX7, 9), (RX8, TX8, 13)]
