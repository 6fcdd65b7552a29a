set_option maxRecDepth 20000 in
theorem ggX6_init_X2_init : GoodIn wsX6_init wsX2_init := goodIn_r _ [11, 12, 2, 3, 13, 14, 15, 18, 19] (by decide +kernel) (by decide +kernel)
set_option maxRecDepth 20000 in
theorem gX6_init_X2_init : GoodIn wsX6_init (wsX2_init) := ggX6_init_X2_init
theorem dX6_init_0 : decode cX6_init 0 = .ok (.aload_n 0, 1) := by decide +kernel
theorem dX6_init_1 : decode cX6_init 1 = .ok (.invokespecial 3, 3) := by decide +kernel
theorem dX6_init_4 : decode cX6_init 4 = .ok (.aload_n 0, 1) := by decide +kernel
theorem dX6_init_5 : decode cX6_init 5 = .ok (.aload_n 1, 1) := by decide +kernel
theorem dX6_init_6 : decode cX6_init 6 = .ok (.putfield 9, 3) := by decide +kernel
theorem dX6_init_9 : decode cX6_init 9 = .ok (.aload_n 0, 1) := by decide +kernel
theorem dX6_init_10 : decode cX6_init 10 = .ok (.new 15, 3) := by decide +kernel
theorem dX6_init_13 : decode cX6_init 13 = .ok (.dup, 1) := by decide +kernel
theorem dX6_init_14 : decode cX6_init 14 = .ok (.aload_n 1, 1) := by decide +kernel
theorem dX6_init_15 : decode cX6_init 15 = .ok (.invokespecial 17, 3) := by decide +kernel
theorem dX6_init_18 : decode cX6_init 18 = .ok (.putfield 20, 3) := by decide +kernel
theorem dX6_init_21 : decode cX6_init 21 = .ok (.return_, 1) := by decide +kernel
set_option maxRecDepth 20000 in
theorem ggX6_tellThing_X4_refusalOfNumber : GoodIn wsX6_tellThing wsX4_refusalOfNumber := goodIn_r _ [6, 7, 72, 73, 74, 75, 76, 77, 78, 79, 80, 81, 82] (by decide +kernel) (by decide +kernel)
set_option maxRecDepth 20000 in
theorem gX6_tellThing_X4_refusalOfNumber : GoodIn wsX6_tellThing (wsV RX6 24 RX4 yX4_refusalOfNumber wsX4_refusalOfNumber) := goodIn_app (goodIn_of _ (by decide +kernel)) ggX6_tellThing_X4_refusalOfNumber
set_option maxRecDepth 20000 in
theorem ggX6_tellThing_X4_kindOf : GoodIn wsX6_tellThing wsX4_kindOf := goodIn_r _ [11, 7, 72, 73, 74, 75, 76, 77, 78, 79, 80, 81, 82] (by decide +kernel) (by decide +kernel)
set_option maxRecDepth 20000 in
theorem gX6_tellThing_X4_kindOf : GoodIn wsX6_tellThing (wsV RX6 30 RX4 yX4_kindOf wsX4_kindOf) := goodIn_app (goodIn_of _ (by decide +kernel)) ggX6_tellThing_X4_kindOf
set_option maxRecDepth 20000 in
theorem ggX6_tellThing_X4_madeOf : GoodIn wsX6_tellThing wsX4_madeOf := goodIn_r _ [15, 16, 72, 73, 74, 75, 76, 77, 78, 79, 80, 81, 82] (by decide +kernel) (by decide +kernel)
set_option maxRecDepth 20000 in
theorem gX6_tellThing_X4_madeOf : GoodIn wsX6_tellThing (wsV RX6 33 RX4 yX4_madeOf wsX4_madeOf) := goodIn_app (goodIn_of _ (by decide +kernel)) ggX6_tellThing_X4_madeOf
set_option maxRecDepth 20000 in
theorem ggX6_tellThing_X4_prevOf : GoodIn wsX6_tellThing wsX4_prevOf := goodIn_r _ [20, 21, 72, 73, 74, 75, 76, 77, 78, 79, 80, 81, 82] (by decide +kernel) (by decide +kernel)
set_option maxRecDepth 20000 in
theorem gX6_tellThing_X4_prevOf : GoodIn wsX6_tellThing (wsV RX6 36 RX4 yX4_prevOf wsX4_prevOf) := goodIn_app (goodIn_of _ (by decide +kernel)) ggX6_tellThing_X4_prevOf
set_option maxRecDepth 20000 in
theorem ggX6_tellThing_X4_ownerOf : GoodIn wsX6_tellThing wsX4_ownerOf := goodIn_r _ [25, 26, 72, 73, 74, 75, 76, 77, 78, 79, 80, 81, 82] (by decide +kernel) (by decide +kernel)
set_option maxRecDepth 20000 in
theorem gX6_tellThing_X4_ownerOf : GoodIn wsX6_tellThing (wsV RX6 39 RX4 yX4_ownerOf wsX4_ownerOf) := goodIn_app (goodIn_of _ (by decide +kernel)) ggX6_tellThing_X4_ownerOf
set_option maxRecDepth 20000 in
theorem ggX6_tellThing_X4_originOf : GoodIn wsX6_tellThing wsX4_originOf := goodIn_r _ [30, 31, 32, 33, 5, 34, 35, 9, 10, 11, 7, 36, 37, 38, 39, 26, 40, 41, 42, 43, 44, 18, 19, 20, 21, 72, 73, 74, 75, 76, 77, 78, 79, 80, 81, 82] (by decide +kernel) (by decide +kernel)
set_option maxRecDepth 20000 in
theorem gX6_tellThing_X4_originOf : GoodIn wsX6_tellThing (wsV RX6 42 RX4 yX4_originOf wsX4_originOf) := goodIn_app (goodIn_of _ (by decide +kernel)) ggX6_tellThing_X4_originOf
set_option maxRecDepth 20000 in
theorem ggX6_tellThing_X4_nextCount : GoodIn wsX6_tellThing wsX4_nextCount := goodIn_r _ [48, 21, 72, 73, 74, 75, 76, 77, 78, 79, 80, 81, 82] (by decide +kernel) (by decide +kernel)
set_option maxRecDepth 20000 in
theorem gX6_tellThing_X4_nextCount : GoodIn wsX6_tellThing (wsV RX6 45 RX4 yX4_nextCount wsX4_nextCount) := goodIn_app (goodIn_of _ (by decide +kernel)) ggX6_tellThing_X4_nextCount
set_option maxRecDepth 20000 in
theorem ggX6_tellThing_X6_heldCount : GoodIn wsX6_tellThing wsX6_heldCount := goodIn_r _ [53, 1, 54, 55, 56, 5, 57, 58, 70, 71, 72, 73, 74, 75, 76, 77, 78, 79, 80, 81, 82] (by decide +kernel) (by decide +kernel)
set_option maxRecDepth 20000 in
theorem gX6_tellThing_X6_heldCount : GoodIn wsX6_tellThing (wsV RX6 48 RX6 yX6_heldCount wsX6_heldCount) := goodIn_app (goodIn_of _ (by decide +kernel)) ggX6_tellThing_X6_heldCount
set_option maxRecDepth 20000 in
theorem ggX6_tellThing_X4_tagsOf : GoodIn wsX6_tellThing wsX4_tagsOf := goodIn_r _ [62, 63, 72, 73, 74, 75, 76, 77, 78, 79, 80, 81, 82] (by decide +kernel) (by decide +kernel)
set_option maxRecDepth 20000 in
theorem gX6_tellThing_X4_tagsOf : GoodIn wsX6_tellThing (wsV RX6 51 RX4 yX4_tagsOf wsX4_tagsOf) := goodIn_app (goodIn_of _ (by decide +kernel)) ggX6_tellThing_X4_tagsOf
set_option maxRecDepth 20000 in
theorem ggX6_tellThing_X4_quotaOf : GoodIn wsX6_tellThing wsX4_quotaOf := goodIn_r _ [67, 68, 72, 73, 74, 75, 76, 77, 78, 79, 80, 81, 82] (by decide +kernel) (by decide +kernel)
set_option maxRecDepth 20000 in
theorem gX6_tellThing_X4_quotaOf : GoodIn wsX6_tellThing (wsV RX6 54 RX4 yX4_quotaOf wsX4_quotaOf) := goodIn_app (goodIn_of _ (by decide +kernel)) ggX6_tellThing_X4_quotaOf
set_option maxRecDepth 20000 in
theorem ggX6_tellThing_X4_ownCount : GoodIn wsX6_tellThing wsX4_ownCount := goodIn_r _ [39, 26, 72, 73, 74, 75, 76, 77, 78, 79, 80, 81, 82] (by decide +kernel) (by decide +kernel)
set_option maxRecDepth 20000 in
theorem gX6_tellThing_X4_ownCount : GoodIn wsX6_tellThing (wsV RX6 57 RX4 yX4_ownCount wsX4_ownCount) := goodIn_app (goodIn_of _ (by decide +kernel)) ggX6_tellThing_X4_ownCount
theorem dX6_tellThing_0 : decode cX6_tellThing 0 = .ok (.iload_n 2, 1) := by decide +kernel
theorem dX6_tellThing_1 : decode cX6_tellThing 1 = .ok (.ifCond .lt 9, 3) := by decide +kernel
theorem dX6_tellThing_4 : decode cX6_tellThing 4 = .ok (.iload_n 2, 1) := by decide +kernel
theorem dX6_tellThing_5 : decode cX6_tellThing 5 = .ok (.bipush 9, 2) := by decide +kernel
theorem dX6_tellThing_7 : decode cX6_tellThing 7 = .ok (.if_icmp .le 6, 3) := by decide +kernel
theorem dX6_tellThing_10 : decode cX6_tellThing 10 = .ok (.bipush (-2), 2) := by decide +kernel
theorem dX6_tellThing_12 : decode cX6_tellThing 12 = .ok (.ireturn, 1) := by decide +kernel
theorem dX6_tellThing_13 : decode cX6_tellThing 13 = .ok (.aload_n 0, 1) := by decide +kernel
theorem dX6_tellThing_14 : decode cX6_tellThing 14 = .ok (.getfield 9, 3) := by decide +kernel
theorem dX6_tellThing_17 : decode cX6_tellThing 17 = .ok (.iload_n 1, 1) := by decide +kernel
theorem dX6_tellThing_18 : decode cX6_tellThing 18 = .ok (.invokevirtual 24, 3) := by decide +kernel
theorem dX6_tellThing_21 : decode cX6_tellThing 21 = .ok (.istore_n 3, 1) := by decide +kernel
theorem dX6_tellThing_22 : decode cX6_tellThing 22 = .ok (.iload_n 3, 1) := by decide +kernel
theorem dX6_tellThing_23 : decode cX6_tellThing 23 = .ok (.ifCond .eq 5, 3) := by decide +kernel
theorem dX6_tellThing_26 : decode cX6_tellThing 26 = .ok (.iload_n 3, 1) := by decide +kernel
theorem dX6_tellThing_27 : decode cX6_tellThing 27 = .ok (.ireturn, 1) := by decide +kernel
theorem dX6_tellThing_28 : decode cX6_tellThing 28 = .ok (.iload_n 2, 1) := by decide +kernel
theorem dX6_tellThing_29 : decode cX6_tellThing 29 = .ok (.tableswitch 129 0 8 #[51, 60, 69, 78, 87, 96, 105, 111, 120], 51) := by decide +kernel
theorem dX6_tellThing_80 : decode cX6_tellThing 80 = .ok (.aload_n 0, 1) := by decide +kernel
theorem dX6_tellThing_81 : decode cX6_tellThing 81 = .ok (.getfield 9, 3) := by decide +kernel
theorem dX6_tellThing_84 : decode cX6_tellThing 84 = .ok (.iload_n 1, 1) := by decide +kernel
theorem dX6_tellThing_85 : decode cX6_tellThing 85 = .ok (.invokevirtual 30, 3) := by decide +kernel
theorem dX6_tellThing_88 : decode cX6_tellThing 88 = .ok (.ireturn, 1) := by decide +kernel
theorem dX6_tellThing_89 : decode cX6_tellThing 89 = .ok (.aload_n 0, 1) := by decide +kernel
theorem dX6_tellThing_90 : decode cX6_tellThing 90 = .ok (.getfield 9, 3) := by decide +kernel
theorem dX6_tellThing_93 : decode cX6_tellThing 93 = .ok (.iload_n 1, 1) := by decide +kernel
theorem dX6_tellThing_94 : decode cX6_tellThing 94 = .ok (.invokevirtual 33, 3) := by decide +kernel
theorem dX6_tellThing_97 : decode cX6_tellThing 97 = .ok (.ireturn, 1) := by decide +kernel
theorem dX6_tellThing_98 : decode cX6_tellThing 98 = .ok (.aload_n 0, 1) := by decide +kernel
theorem dX6_tellThing_99 : decode cX6_tellThing 99 = .ok (.getfield 9, 3) := by decide +kernel
theorem dX6_tellThing_102 : decode cX6_tellThing 102 = .ok (.iload_n 1, 1) := by decide +kernel
theorem dX6_tellThing_103 : decode cX6_tellThing 103 = .ok (.invokevirtual 36, 3) := by decide +kernel
theorem dX6_tellThing_106 : decode cX6_tellThing 106 = .ok (.ireturn, 1) := by decide +kernel
theorem dX6_tellThing_107 : decode cX6_tellThing 107 = .ok (.aload_n 0, 1) := by decide +kernel
theorem dX6_tellThing_108 : decode cX6_tellThing 108 = .ok (.getfield 9, 3) := by decide +kernel
theorem dX6_tellThing_111 : decode cX6_tellThing 111 = .ok (.iload_n 1, 1) := by decide +kernel
theorem dX6_tellThing_112 : decode cX6_tellThing 112 = .ok (.invokevirtual 39, 3) := by decide +kernel
theorem dX6_tellThing_115 : decode cX6_tellThing 115 = .ok (.ireturn, 1) := by decide +kernel
theorem dX6_tellThing_116 : decode cX6_tellThing 116 = .ok (.aload_n 0, 1) := by decide +kernel
theorem dX6_tellThing_117 : decode cX6_tellThing 117 = .ok (.getfield 9, 3) := by decide +kernel
theorem dX6_tellThing_120 : decode cX6_tellThing 120 = .ok (.iload_n 1, 1) := by decide +kernel
theorem dX6_tellThing_121 : decode cX6_tellThing 121 = .ok (.invokevirtual 42, 3) := by decide +kernel
theorem dX6_tellThing_124 : decode cX6_tellThing 124 = .ok (.ireturn, 1) := by decide +kernel
theorem dX6_tellThing_125 : decode cX6_tellThing 125 = .ok (.aload_n 0, 1) := by decide +kernel
theorem dX6_tellThing_126 : decode cX6_tellThing 126 = .ok (.getfield 9, 3) := by decide +kernel
theorem dX6_tellThing_129 : decode cX6_tellThing 129 = .ok (.iload_n 1, 1) := by decide +kernel
theorem dX6_tellThing_130 : decode cX6_tellThing 130 = .ok (.invokevirtual 45, 3) := by decide +kernel
theorem dX6_tellThing_133 : decode cX6_tellThing 133 = .ok (.ireturn, 1) := by decide +kernel
theorem dX6_tellThing_134 : decode cX6_tellThing 134 = .ok (.aload_n 0, 1) := by decide +kernel
theorem dX6_tellThing_135 : decode cX6_tellThing 135 = .ok (.iload_n 1, 1) := by decide +kernel
theorem dX6_tellThing_136 : decode cX6_tellThing 136 = .ok (.invokevirtual 48, 3) := by decide +kernel
theorem dX6_tellThing_139 : decode cX6_tellThing 139 = .ok (.ireturn, 1) := by decide +kernel
theorem dX6_tellThing_140 : decode cX6_tellThing 140 = .ok (.aload_n 0, 1) := by decide +kernel
theorem dX6_tellThing_141 : decode cX6_tellThing 141 = .ok (.getfield 9, 3) := by decide +kernel
theorem dX6_tellThing_144 : decode cX6_tellThing 144 = .ok (.iload_n 1, 1) := by decide +kernel
theorem dX6_tellThing_145 : decode cX6_tellThing 145 = .ok (.invokevirtual 51, 3) := by decide +kernel
theorem dX6_tellThing_148 : decode cX6_tellThing 148 = .ok (.ireturn, 1) := by decide +kernel
theorem dX6_tellThing_149 : decode cX6_tellThing 149 = .ok (.aload_n 0, 1) := by decide +kernel
theorem dX6_tellThing_150 : decode cX6_tellThing 150 = .ok (.getfield 9, 3) := by decide +kernel
theorem dX6_tellThing_153 : decode cX6_tellThing 153 = .ok (.iload_n 1, 1) := by decide +kernel
theorem dX6_tellThing_154 : decode cX6_tellThing 154 = .ok (.invokevirtual 54, 3) := by decide +kernel
theorem dX6_tellThing_157 : decode cX6_tellThing 157 = .ok (.ireturn, 1) := by decide +kernel
theorem dX6_tellThing_158 : decode cX6_tellThing 158 = .ok (.aload_n 0, 1) := by decide +kernel
theorem dX6_tellThing_159 : decode cX6_tellThing 159 = .ok (.getfield 9, 3) := by decide +kernel
theorem dX6_tellThing_162 : decode cX6_tellThing 162 = .ok (.iload_n 1, 1) := by decide +kernel
theorem dX6_tellThing_163 : decode cX6_tellThing 163 = .ok (.invokevirtual 57, 3) := by decide +kernel
theorem dX6_tellThing_166 : decode cX6_tellThing 166 = .ok (.ireturn, 1) := by decide +kernel
set_option maxRecDepth 20000 in
theorem ggX6_heldCount_X4_blockIn : GoodIn wsX6_heldCount wsX4_blockIn := goodIn_r _ [6, 7, 10, 11, 12, 13, 14, 15, 16, 17, 18, 19, 20] (by decide +kernel) (by decide +kernel)
set_option maxRecDepth 20000 in
theorem gX6_heldCount_X4_blockIn : GoodIn wsX6_heldCount (wsV RX6 60 RX4 yX4_blockIn wsX4_blockIn) := goodIn_app (goodIn_of _ (by decide +kernel)) ggX6_heldCount_X4_blockIn
theorem dX6_heldCount_0 : decode cX6_heldCount 0 = .ok (.iconst 0, 1) := by decide +kernel
theorem dX6_heldCount_1 : decode cX6_heldCount 1 = .ok (.istore_n 2, 1) := by decide +kernel
theorem dX6_heldCount_2 : decode cX6_heldCount 2 = .ok (.iconst 0, 1) := by decide +kernel
theorem dX6_heldCount_3 : decode cX6_heldCount 3 = .ok (.istore_n 3, 1) := by decide +kernel
theorem dX6_heldCount_4 : decode cX6_heldCount 4 = .ok (.iload_n 3, 1) := by decide +kernel
theorem dX6_heldCount_5 : decode cX6_heldCount 5 = .ok (.bipush 12, 2) := by decide +kernel
theorem dX6_heldCount_7 : decode cX6_heldCount 7 = .ok (.if_icmp .ge 25, 3) := by decide +kernel
theorem dX6_heldCount_10 : decode cX6_heldCount 10 = .ok (.aload_n 0, 1) := by decide +kernel
theorem dX6_heldCount_11 : decode cX6_heldCount 11 = .ok (.getfield 9, 3) := by decide +kernel
theorem dX6_heldCount_14 : decode cX6_heldCount 14 = .ok (.iload_n 1, 1) := by decide +kernel
theorem dX6_heldCount_15 : decode cX6_heldCount 15 = .ok (.iload_n 3, 1) := by decide +kernel
theorem dX6_heldCount_16 : decode cX6_heldCount 16 = .ok (.invokevirtual 60, 3) := by decide +kernel
theorem dX6_heldCount_19 : decode cX6_heldCount 19 = .ok (.iconst (-1), 1) := by decide +kernel
theorem dX6_heldCount_20 : decode cX6_heldCount 20 = .ok (.if_icmp .eq 6, 3) := by decide +kernel
theorem dX6_heldCount_23 : decode cX6_heldCount 23 = .ok (.iinc 2 1, 3) := by decide +kernel
theorem dX6_heldCount_26 : decode cX6_heldCount 26 = .ok (.iinc 3 1, 3) := by decide +kernel
theorem dX6_heldCount_29 : decode cX6_heldCount 29 = .ok (.goto (-25), 3) := by decide +kernel
theorem dX6_heldCount_32 : decode cX6_heldCount 32 = .ok (.iload_n 2, 1) := by decide +kernel
theorem dX6_heldCount_33 : decode cX6_heldCount 33 = .ok (.ireturn, 1) := by decide +kernel
set_option maxRecDepth 20000 in
theorem ggX6_tellSlot_X4_refusalAsHolder : GoodIn wsX6_tellSlot wsX4_refusalAsHolder := goodIn_r _ [6, 7, 8, 9, 5, 10, 11, 12, 13, 14, 15, 23, 24, 25, 26, 27, 28, 29, 30, 31, 32, 33] (by decide +kernel) (by decide +kernel)
set_option maxRecDepth 20000 in
theorem gX6_tellSlot_X4_refusalAsHolder : GoodIn wsX6_tellSlot (wsV RX6 64 RX4 yX4_refusalAsHolder wsX4_refusalAsHolder) := goodIn_app (goodIn_of _ (by decide +kernel)) ggX6_tellSlot_X4_refusalAsHolder
set_option maxRecDepth 20000 in
theorem ggX6_tellSlot_X4_blockIn : GoodIn wsX6_tellSlot wsX4_blockIn := goodIn_r _ [19, 20, 23, 24, 25, 26, 27, 28, 29, 30, 31, 32, 33] (by decide +kernel) (by decide +kernel)
set_option maxRecDepth 20000 in
theorem gX6_tellSlot_X4_blockIn : GoodIn wsX6_tellSlot (wsV RX6 60 RX4 yX4_blockIn wsX4_blockIn) := goodIn_app (goodIn_of _ (by decide +kernel)) ggX6_tellSlot_X4_blockIn
theorem dX6_tellSlot_0 : decode cX6_tellSlot 0 = .ok (.iload_n 2, 1) := by decide +kernel
theorem dX6_tellSlot_1 : decode cX6_tellSlot 1 = .ok (.ifCond .lt 9, 3) := by decide +kernel
theorem dX6_tellSlot_4 : decode cX6_tellSlot 4 = .ok (.iload_n 2, 1) := by decide +kernel
theorem dX6_tellSlot_5 : decode cX6_tellSlot 5 = .ok (.bipush 12, 2) := by decide +kernel
theorem dX6_tellSlot_7 : decode cX6_tellSlot 7 = .ok (.if_icmp .lt 6, 3) := by decide +kernel
theorem dX6_tellSlot_10 : decode cX6_tellSlot 10 = .ok (.bipush (-2), 2) := by decide +kernel
theorem dX6_tellSlot_12 : decode cX6_tellSlot 12 = .ok (.ireturn, 1) := by decide +kernel
theorem dX6_tellSlot_13 : decode cX6_tellSlot 13 = .ok (.aload_n 0, 1) := by decide +kernel
theorem dX6_tellSlot_14 : decode cX6_tellSlot 14 = .ok (.getfield 9, 3) := by decide +kernel
theorem dX6_tellSlot_17 : decode cX6_tellSlot 17 = .ok (.iload_n 1, 1) := by decide +kernel
theorem dX6_tellSlot_18 : decode cX6_tellSlot 18 = .ok (.invokevirtual 64, 3) := by decide +kernel
theorem dX6_tellSlot_21 : decode cX6_tellSlot 21 = .ok (.istore_n 3, 1) := by decide +kernel
theorem dX6_tellSlot_22 : decode cX6_tellSlot 22 = .ok (.iload_n 3, 1) := by decide +kernel
theorem dX6_tellSlot_23 : decode cX6_tellSlot 23 = .ok (.ifCond .eq 7, 3) := by decide +kernel
theorem dX6_tellSlot_26 : decode cX6_tellSlot 26 = .ok (.iload_n 3, 1) := by decide +kernel
theorem dX6_tellSlot_27 : decode cX6_tellSlot 27 = .ok (.goto 12, 3) := by decide +kernel
theorem dX6_tellSlot_30 : decode cX6_tellSlot 30 = .ok (.aload_n 0, 1) := by decide +kernel
theorem dX6_tellSlot_31 : decode cX6_tellSlot 31 = .ok (.getfield 9, 3) := by decide +kernel
theorem dX6_tellSlot_34 : decode cX6_tellSlot 34 = .ok (.iload_n 1, 1) := by decide +kernel
theorem dX6_tellSlot_35 : decode cX6_tellSlot 35 = .ok (.iload_n 2, 1) := by decide +kernel
theorem dX6_tellSlot_36 : decode cX6_tellSlot 36 = .ok (.invokevirtual 60, 3) := by decide +kernel
theorem dX6_tellSlot_39 : decode cX6_tellSlot 39 = .ok (.ireturn, 1) := by decide +kernel
set_option maxRecDepth 20000 in
theorem ggX6_tellBlock_X4_sizeOf : GoodIn wsX6_tellBlock wsX4_sizeOf := goodIn_r _ [7, 8, 39, 40, 41, 42, 43, 44, 45, 46, 47, 48, 49] (by decide +kernel) (by decide +kernel)
set_option maxRecDepth 20000 in
theorem gX6_tellBlock_X4_sizeOf : GoodIn wsX6_tellBlock (wsV RX6 67 RX4 yX4_sizeOf wsX4_sizeOf) := goodIn_app (goodIn_of _ (by decide +kernel)) ggX6_tellBlock_X4_sizeOf
set_option maxRecDepth 20000 in
theorem ggX6_tellBlock_X4_birthOf : GoodIn wsX6_tellBlock wsX4_birthOf := goodIn_r _ [12, 13, 39, 40, 41, 42, 43, 44, 45, 46, 47, 48, 49] (by decide +kernel) (by decide +kernel)
set_option maxRecDepth 20000 in
theorem gX6_tellBlock_X4_birthOf : GoodIn wsX6_tellBlock (wsV RX6 70 RX4 yX4_birthOf wsX4_birthOf) := goodIn_app (goodIn_of _ (by decide +kernel)) ggX6_tellBlock_X4_birthOf
set_option maxRecDepth 20000 in
theorem ggX6_tellBlock_X2_look : GoodIn wsX6_tellBlock wsX2_look := goodIn_r _ [18, 19, 20, 21, 22, 23, 6, 24, 25, 50, 51, 39, 40, 41, 42, 43, 44, 45, 46, 47, 48, 49] (by decide +kernel) (by decide +kernel)
set_option maxRecDepth 20000 in
theorem gX6_tellBlock_X2_look : GoodIn wsX6_tellBlock (wsV RX6 73 RX2 yX2_look wsX2_look) := goodIn_app (goodIn_of _ (by decide +kernel)) ggX6_tellBlock_X2_look
set_option maxRecDepth 20000 in
theorem ggX6_tellBlock_X2_setOf : GoodIn wsX6_tellBlock wsX2_setOf := goodIn_r _ [29, 19, 50, 51] (by decide +kernel) (by decide +kernel)
set_option maxRecDepth 20000 in
theorem gX6_tellBlock_X2_setOf : GoodIn wsX6_tellBlock (wsV RX6 76 RX2 yX2_setOf wsX2_setOf) := goodIn_app (goodIn_of _ (by decide +kernel)) ggX6_tellBlock_X2_setOf
set_option maxRecDepth 20000 in
theorem ggX6_tellBlock_J6_bitCount_0f7a4 : GoodIn wsX6_tellBlock wsJ6_bitCount_0f7a4 := goodIn_r _ [33, 34, 35, 36] (by decide +kernel) (by decide +kernel)
set_option maxRecDepth 20000 in
theorem gX6_tellBlock_J6_bitCount_0f7a4 : GoodIn wsX6_tellBlock (va_wsS RX6 79 yJ6_bitCount_0f7a4 wsJ6_bitCount_0f7a4) := goodIn_app (goodIn_of _ (by decide +kernel)) ggX6_tellBlock_J6_bitCount_0f7a4
theorem dX6_tellBlock_0 : decode cX6_tellBlock 0 = .ok (.iload_n 2, 1) := by decide +kernel
theorem dX6_tellBlock_1 : decode cX6_tellBlock 1 = .ok (.ifCond .lt 8, 3) := by decide +kernel
theorem dX6_tellBlock_4 : decode cX6_tellBlock 4 = .ok (.iload_n 2, 1) := by decide +kernel
theorem dX6_tellBlock_5 : decode cX6_tellBlock 5 = .ok (.iconst 2, 1) := by decide +kernel
theorem dX6_tellBlock_6 : decode cX6_tellBlock 6 = .ok (.if_icmp .le 6, 3) := by decide +kernel
theorem dX6_tellBlock_9 : decode cX6_tellBlock 9 = .ok (.bipush (-2), 2) := by decide +kernel
theorem dX6_tellBlock_11 : decode cX6_tellBlock 11 = .ok (.ireturn, 1) := by decide +kernel
theorem dX6_tellBlock_12 : decode cX6_tellBlock 12 = .ok (.iload_n 1, 1) := by decide +kernel
theorem dX6_tellBlock_13 : decode cX6_tellBlock 13 = .ok (.ifCond .lt 9, 3) := by decide +kernel
theorem dX6_tellBlock_16 : decode cX6_tellBlock 16 = .ok (.iload_n 1, 1) := by decide +kernel
theorem dX6_tellBlock_17 : decode cX6_tellBlock 17 = .ok (.bipush 96, 2) := by decide +kernel
theorem dX6_tellBlock_19 : decode cX6_tellBlock 19 = .ok (.if_icmp .lt 6, 3) := by decide +kernel
theorem dX6_tellBlock_22 : decode cX6_tellBlock 22 = .ok (.bipush (-12), 2) := by decide +kernel
theorem dX6_tellBlock_24 : decode cX6_tellBlock 24 = .ok (.ireturn, 1) := by decide +kernel
theorem dX6_tellBlock_25 : decode cX6_tellBlock 25 = .ok (.aload_n 0, 1) := by decide +kernel
theorem dX6_tellBlock_26 : decode cX6_tellBlock 26 = .ok (.getfield 9, 3) := by decide +kernel
theorem dX6_tellBlock_29 : decode cX6_tellBlock 29 = .ok (.iload_n 1, 1) := by decide +kernel
theorem dX6_tellBlock_30 : decode cX6_tellBlock 30 = .ok (.invokevirtual 67, 3) := by decide +kernel
theorem dX6_tellBlock_33 : decode cX6_tellBlock 33 = .ok (.ifCond .ne 6, 3) := by decide +kernel
theorem dX6_tellBlock_36 : decode cX6_tellBlock 36 = .ok (.bipush (-11), 2) := by decide +kernel
theorem dX6_tellBlock_38 : decode cX6_tellBlock 38 = .ok (.ireturn, 1) := by decide +kernel
theorem dX6_tellBlock_39 : decode cX6_tellBlock 39 = .ok (.iload_n 2, 1) := by decide +kernel
theorem dX6_tellBlock_40 : decode cX6_tellBlock 40 = .ok (.lookupswitch 46 #[(0, 28), (1, 37)], 28) := by decide +kernel
theorem dX6_tellBlock_68 : decode cX6_tellBlock 68 = .ok (.aload_n 0, 1) := by decide +kernel
theorem dX6_tellBlock_69 : decode cX6_tellBlock 69 = .ok (.getfield 9, 3) := by decide +kernel
theorem dX6_tellBlock_72 : decode cX6_tellBlock 72 = .ok (.iload_n 1, 1) := by decide +kernel
theorem dX6_tellBlock_73 : decode cX6_tellBlock 73 = .ok (.invokevirtual 67, 3) := by decide +kernel
theorem dX6_tellBlock_76 : decode cX6_tellBlock 76 = .ok (.ireturn, 1) := by decide +kernel
theorem dX6_tellBlock_77 : decode cX6_tellBlock 77 = .ok (.aload_n 0, 1) := by decide +kernel
theorem dX6_tellBlock_78 : decode cX6_tellBlock 78 = .ok (.getfield 9, 3) := by decide +kernel
theorem dX6_tellBlock_81 : decode cX6_tellBlock 81 = .ok (.iload_n 1, 1) := by decide +kernel
theorem dX6_tellBlock_82 : decode cX6_tellBlock 82 = .ok (.invokevirtual 70, 3) := by decide +kernel
theorem dX6_tellBlock_85 : decode cX6_tellBlock 85 = .ok (.ireturn, 1) := by decide +kernel
theorem dX6_tellBlock_86 : decode cX6_tellBlock 86 = .ok (.aload_n 0, 1) := by decide +kernel
theorem dX6_tellBlock_87 : decode cX6_tellBlock 87 = .ok (.getfield 20, 3) := by decide +kernel
theorem dX6_tellBlock_90 : decode cX6_tellBlock 90 = .ok (.invokevirtual 73, 3) := by decide +kernel
theorem dX6_tellBlock_93 : decode cX6_tellBlock 93 = .ok (.aload_n 0, 1) := by decide +kernel
theorem dX6_tellBlock_94 : decode cX6_tellBlock 94 = .ok (.getfield 20, 3) := by decide +kernel
theorem dX6_tellBlock_97 : decode cX6_tellBlock 97 = .ok (.iload_n 1, 1) := by decide +kernel
theorem dX6_tellBlock_98 : decode cX6_tellBlock 98 = .ok (.invokevirtual 76, 3) := by decide +kernel
theorem dX6_tellBlock_101 : decode cX6_tellBlock 101 = .ok (.invokestatic 79, 3) := by decide +kernel
theorem dX6_tellBlock_104 : decode cX6_tellBlock 104 = .ok (.ireturn, 1) := by decide +kernel
set_option maxRecDepth 20000 in
theorem ggX6_tellTaken_X4_refusalAs : GoodIn wsX6_tellTaken wsX4_refusalAs := goodIn_r _ [6, 7, 8, 9, 5, 10, 11, 12, 13, 14, 15, 23, 24, 25, 26, 27, 28, 29, 30, 31, 32, 33] (by decide +kernel) (by decide +kernel)
set_option maxRecDepth 20000 in
theorem gX6_tellTaken_X4_refusalAs : GoodIn wsX6_tellTaken (wsV RX6 84 RX4 yX4_refusalAs wsX4_refusalAs) := goodIn_app (goodIn_of _ (by decide +kernel)) ggX6_tellTaken_X4_refusalAs
set_option maxRecDepth 20000 in
theorem ggX6_tellTaken_X4_madeOf : GoodIn wsX6_tellTaken wsX4_madeOf := goodIn_r _ [19, 20, 23, 24, 25, 26, 27, 28, 29, 30, 31, 32, 33] (by decide +kernel) (by decide +kernel)
set_option maxRecDepth 20000 in
theorem gX6_tellTaken_X4_madeOf : GoodIn wsX6_tellTaken (wsV RX6 33 RX4 yX4_madeOf wsX4_madeOf) := goodIn_app (goodIn_of _ (by decide +kernel)) ggX6_tellTaken_X4_madeOf
theorem dX6_tellTaken_0 : decode cX6_tellTaken 0 = .ok (.iload_n 2, 1) := by decide +kernel
theorem dX6_tellTaken_1 : decode cX6_tellTaken 1 = .ok (.ifCond .lt 8, 3) := by decide +kernel
theorem dX6_tellTaken_4 : decode cX6_tellTaken 4 = .ok (.iload_n 2, 1) := by decide +kernel
theorem dX6_tellTaken_5 : decode cX6_tellTaken 5 = .ok (.iconst 4, 1) := by decide +kernel
theorem dX6_tellTaken_6 : decode cX6_tellTaken 6 = .ok (.if_icmp .le 6, 3) := by decide +kernel
theorem dX6_tellTaken_9 : decode cX6_tellTaken 9 = .ok (.bipush (-2), 2) := by decide +kernel
theorem dX6_tellTaken_11 : decode cX6_tellTaken 11 = .ok (.ireturn, 1) := by decide +kernel
theorem dX6_tellTaken_12 : decode cX6_tellTaken 12 = .ok (.aload_n 0, 1) := by decide +kernel
theorem dX6_tellTaken_13 : decode cX6_tellTaken 13 = .ok (.getfield 9, 3) := by decide +kernel
theorem dX6_tellTaken_16 : decode cX6_tellTaken 16 = .ok (.iload_n 1, 1) := by decide +kernel
theorem dX6_tellTaken_17 : decode cX6_tellTaken 17 = .ok (.iload_n 2, 1) := by decide +kernel
theorem dX6_tellTaken_18 : decode cX6_tellTaken 18 = .ok (.invokevirtual 84, 3) := by decide +kernel
theorem dX6_tellTaken_21 : decode cX6_tellTaken 21 = .ok (.istore_n 3, 1) := by decide +kernel
theorem dX6_tellTaken_22 : decode cX6_tellTaken 22 = .ok (.iload_n 3, 1) := by decide +kernel
theorem dX6_tellTaken_23 : decode cX6_tellTaken 23 = .ok (.ifCond .eq 7, 3) := by decide +kernel
theorem dX6_tellTaken_26 : decode cX6_tellTaken 26 = .ok (.iload_n 3, 1) := by decide +kernel
theorem dX6_tellTaken_27 : decode cX6_tellTaken 27 = .ok (.goto 11, 3) := by decide +kernel
theorem dX6_tellTaken_30 : decode cX6_tellTaken 30 = .ok (.aload_n 0, 1) := by decide +kernel
theorem dX6_tellTaken_31 : decode cX6_tellTaken 31 = .ok (.getfield 9, 3) := by decide +kernel
theorem dX6_tellTaken_34 : decode cX6_tellTaken 34 = .ok (.iload_n 1, 1) := by decide +kernel
theorem dX6_tellTaken_35 : decode cX6_tellTaken 35 = .ok (.invokevirtual 33, 3) := by decide +kernel
theorem dX6_tellTaken_38 : decode cX6_tellTaken 38 = .ok (.ireturn, 1) := by decide +kernel
set_option maxRecDepth 20000 in
theorem ggX6_tellDead_X4_refusalAsHolder : GoodIn wsX6_tellDead wsX4_refusalAsHolder := goodIn_r _ [6, 7, 8, 9, 5, 10, 11, 12, 13, 14, 15, 46, 47, 48, 49, 50, 51, 52, 53, 54, 55, 56] (by decide +kernel) (by decide +kernel)
set_option maxRecDepth 20000 in
theorem gX6_tellDead_X4_refusalAsHolder : GoodIn wsX6_tellDead (wsV RX6 64 RX4 yX4_refusalAsHolder wsX4_refusalAsHolder) := goodIn_app (goodIn_of _ (by decide +kernel)) ggX6_tellDead_X4_refusalAsHolder
set_option maxRecDepth 20000 in
theorem ggX6_tellDead_X6_deadIn : GoodIn wsX6_tellDead wsX6_deadIn := goodIn_r _ [20, 1, 21, 22, 23, 5, 24, 25, 26, 27, 28, 29, 30, 44, 45, 46, 47, 48, 49, 50, 51, 52, 53, 54, 55, 56] (by decide +kernel) (by decide +kernel)
set_option maxRecDepth 20000 in
theorem gX6_tellDead_X6_deadIn : GoodIn wsX6_tellDead (wsV RX6 87 RX6 yX6_deadIn wsX6_deadIn) := goodIn_app (goodIn_of _ (by decide +kernel)) ggX6_tellDead_X6_deadIn
set_option maxRecDepth 20000 in
theorem ggX6_tellDead_X6_isLater : GoodIn wsX6_tellDead wsX6_isLater := goodIn_r _ [34, 1, 35, 36, 37, 5, 38, 39, 40, 41, 42, 43, 44, 45, 46, 47, 48, 49, 50, 51, 52, 53, 54, 55, 56] (by decide +kernel) (by decide +kernel)
set_option maxRecDepth 20000 in
theorem gX6_tellDead_X6_isLater : GoodIn wsX6_tellDead (wsV RX6 90 RX6 yX6_isLater wsX6_isLater) := goodIn_app (goodIn_of _ (by decide +kernel)) ggX6_tellDead_X6_isLater
theorem dX6_tellDead_0 : decode cX6_tellDead 0 = .ok (.iload_n 2, 1) := by decide +kernel
theorem dX6_tellDead_1 : decode cX6_tellDead 1 = .ok (.ifCond .lt 8, 3) := by decide +kernel
theorem dX6_tellDead_4 : decode cX6_tellDead 4 = .ok (.iload_n 2, 1) := by decide +kernel
theorem dX6_tellDead_5 : decode cX6_tellDead 5 = .ok (.iconst 2, 1) := by decide +kernel
theorem dX6_tellDead_6 : decode cX6_tellDead 6 = .ok (.if_icmp .le 6, 3) := by decide +kernel
theorem dX6_tellDead_9 : decode cX6_tellDead 9 = .ok (.bipush (-2), 2) := by decide +kernel
theorem dX6_tellDead_11 : decode cX6_tellDead 11 = .ok (.ireturn, 1) := by decide +kernel
theorem dX6_tellDead_12 : decode cX6_tellDead 12 = .ok (.aload_n 0, 1) := by decide +kernel
theorem dX6_tellDead_13 : decode cX6_tellDead 13 = .ok (.getfield 9, 3) := by decide +kernel
theorem dX6_tellDead_16 : decode cX6_tellDead 16 = .ok (.iload_n 1, 1) := by decide +kernel
theorem dX6_tellDead_17 : decode cX6_tellDead 17 = .ok (.invokevirtual 64, 3) := by decide +kernel
theorem dX6_tellDead_20 : decode cX6_tellDead 20 = .ok (.istore_n 3, 1) := by decide +kernel
theorem dX6_tellDead_21 : decode cX6_tellDead 21 = .ok (.iload_n 3, 1) := by decide +kernel
theorem dX6_tellDead_22 : decode cX6_tellDead 22 = .ok (.ifCond .eq 5, 3) := by decide +kernel
theorem dX6_tellDead_25 : decode cX6_tellDead 25 = .ok (.iload_n 3, 1) := by decide +kernel
theorem dX6_tellDead_26 : decode cX6_tellDead 26 = .ok (.ireturn, 1) := by decide +kernel
theorem dX6_tellDead_27 : decode cX6_tellDead 27 = .ok (.iconst 0, 1) := by decide +kernel
theorem dX6_tellDead_28 : decode cX6_tellDead 28 = .ok (.istore 4, 2) := by decide +kernel
theorem dX6_tellDead_30 : decode cX6_tellDead 30 = .ok (.iconst (-1), 1) := by decide +kernel
theorem dX6_tellDead_31 : decode cX6_tellDead 31 = .ok (.istore 5, 2) := by decide +kernel
theorem dX6_tellDead_33 : decode cX6_tellDead 33 = .ok (.iconst (-1), 1) := by decide +kernel
theorem dX6_tellDead_34 : decode cX6_tellDead 34 = .ok (.istore 6, 2) := by decide +kernel
theorem dX6_tellDead_36 : decode cX6_tellDead 36 = .ok (.iconst 0, 1) := by decide +kernel
theorem dX6_tellDead_37 : decode cX6_tellDead 37 = .ok (.istore 7, 2) := by decide +kernel
theorem dX6_tellDead_39 : decode cX6_tellDead 39 = .ok (.iload 7, 2) := by decide +kernel
theorem dX6_tellDead_41 : decode cX6_tellDead 41 = .ok (.bipush 12, 2) := by decide +kernel
theorem dX6_tellDead_43 : decode cX6_tellDead 43 = .ok (.if_icmp .ge 79, 3) := by decide +kernel
theorem dX6_tellDead_46 : decode cX6_tellDead 46 = .ok (.aload_n 0, 1) := by decide +kernel
theorem dX6_tellDead_47 : decode cX6_tellDead 47 = .ok (.iload_n 1, 1) := by decide +kernel
theorem dX6_tellDead_48 : decode cX6_tellDead 48 = .ok (.iload 7, 2) := by decide +kernel
theorem dX6_tellDead_50 : decode cX6_tellDead 50 = .ok (.invokevirtual 87, 3) := by decide +kernel
theorem dX6_tellDead_53 : decode cX6_tellDead 53 = .ok (.istore 8, 2) := by decide +kernel
theorem dX6_tellDead_55 : decode cX6_tellDead 55 = .ok (.iload 8, 2) := by decide +kernel
theorem dX6_tellDead_57 : decode cX6_tellDead 57 = .ok (.iconst (-1), 1) := by decide +kernel
theorem dX6_tellDead_58 : decode cX6_tellDead 58 = .ok (.if_icmp .eq 58, 3) := by decide +kernel
theorem dX6_tellDead_61 : decode cX6_tellDead 61 = .ok (.iinc 4 1, 3) := by decide +kernel
theorem dX6_tellDead_64 : decode cX6_tellDead 64 = .ok (.iload 5, 2) := by decide +kernel
theorem dX6_tellDead_66 : decode cX6_tellDead 66 = .ok (.iconst (-1), 1) := by decide +kernel
theorem dX6_tellDead_67 : decode cX6_tellDead 67 = .ok (.if_icmp .eq 14, 3) := by decide +kernel
theorem dX6_tellDead_70 : decode cX6_tellDead 70 = .ok (.aload_n 0, 1) := by decide +kernel
theorem dX6_tellDead_71 : decode cX6_tellDead 71 = .ok (.iload 8, 2) := by decide +kernel
theorem dX6_tellDead_73 : decode cX6_tellDead 73 = .ok (.iload 5, 2) := by decide +kernel
theorem dX6_tellDead_75 : decode cX6_tellDead 75 = .ok (.invokevirtual 90, 3) := by decide +kernel
theorem dX6_tellDead_78 : decode cX6_tellDead 78 = .ok (.ifCond .eq 8, 3) := by decide +kernel
theorem dX6_tellDead_81 : decode cX6_tellDead 81 = .ok (.iload 8, 2) := by decide +kernel
theorem dX6_tellDead_83 : decode cX6_tellDead 83 = .ok (.goto 5, 3) := by decide +kernel
theorem dX6_tellDead_86 : decode cX6_tellDead 86 = .ok (.iload 5, 2) := by decide +kernel
theorem dX6_tellDead_88 : decode cX6_tellDead 88 = .ok (.istore 5, 2) := by decide +kernel
theorem dX6_tellDead_90 : decode cX6_tellDead 90 = .ok (.iload 6, 2) := by decide +kernel
theorem dX6_tellDead_92 : decode cX6_tellDead 92 = .ok (.iconst (-1), 1) := by decide +kernel
theorem dX6_tellDead_93 : decode cX6_tellDead 93 = .ok (.if_icmp .eq 14, 3) := by decide +kernel
theorem dX6_tellDead_96 : decode cX6_tellDead 96 = .ok (.aload_n 0, 1) := by decide +kernel
theorem dX6_tellDead_97 : decode cX6_tellDead 97 = .ok (.iload 6, 2) := by decide +kernel
theorem dX6_tellDead_99 : decode cX6_tellDead 99 = .ok (.iload 8, 2) := by decide +kernel
theorem dX6_tellDead_101 : decode cX6_tellDead 101 = .ok (.invokevirtual 90, 3) := by decide +kernel
theorem dX6_tellDead_104 : decode cX6_tellDead 104 = .ok (.ifCond .eq 8, 3) := by decide +kernel
theorem dX6_tellDead_107 : decode cX6_tellDead 107 = .ok (.iload 8, 2) := by decide +kernel
theorem dX6_tellDead_109 : decode cX6_tellDead 109 = .ok (.goto 5, 3) := by decide +kernel
theorem dX6_tellDead_112 : decode cX6_tellDead 112 = .ok (.iload 6, 2) := by decide +kernel
theorem dX6_tellDead_114 : decode cX6_tellDead 114 = .ok (.istore 6, 2) := by decide +kernel
theorem dX6_tellDead_116 : decode cX6_tellDead 116 = .ok (.iinc 7 1, 3) := by decide +kernel
theorem dX6_tellDead_119 : decode cX6_tellDead 119 = .ok (.goto (-80), 3) := by decide +kernel
theorem dX6_tellDead_122 : decode cX6_tellDead 122 = .ok (.iload_n 2, 1) := by decide +kernel
theorem dX6_tellDead_123 : decode cX6_tellDead 123 = .ok (.ifCond .ne 6, 3) := by decide +kernel
theorem dX6_tellDead_126 : decode cX6_tellDead 126 = .ok (.iload 4, 2) := by decide +kernel
theorem dX6_tellDead_128 : decode cX6_tellDead 128 = .ok (.ireturn, 1) := by decide +kernel
theorem dX6_tellDead_129 : decode cX6_tellDead 129 = .ok (.iload_n 2, 1) := by decide +kernel
theorem dX6_tellDead_130 : decode cX6_tellDead 130 = .ok (.iconst 1, 1) := by decide +kernel
theorem dX6_tellDead_131 : decode cX6_tellDead 131 = .ok (.if_icmp .ne 8, 3) := by decide +kernel
theorem dX6_tellDead_134 : decode cX6_tellDead 134 = .ok (.iload 5, 2) := by decide +kernel
theorem dX6_tellDead_136 : decode cX6_tellDead 136 = .ok (.goto 5, 3) := by decide +kernel
theorem dX6_tellDead_139 : decode cX6_tellDead 139 = .ok (.iload 6, 2) := by decide +kernel
theorem dX6_tellDead_141 : decode cX6_tellDead 141 = .ok (.ireturn, 1) := by decide +kernel
set_option maxRecDepth 20000 in
theorem ggX6_deadIn_X4_prevOf : GoodIn wsX6_deadIn wsX4_prevOf := goodIn_r _ [6, 7, 15, 16, 17, 18, 19, 20, 21, 22, 23, 24, 25] (by decide +kernel) (by decide +kernel)
set_option maxRecDepth 20000 in
theorem gX6_deadIn_X4_prevOf : GoodIn wsX6_deadIn (wsV RX6 36 RX4 yX4_prevOf wsX4_prevOf) := goodIn_app (goodIn_of _ (by decide +kernel)) ggX6_deadIn_X4_prevOf
set_option maxRecDepth 20000 in
theorem ggX6_deadIn_X4_blockIn : GoodIn wsX6_deadIn wsX4_blockIn := goodIn_r _ [11, 12, 15, 16, 17, 18, 19, 20, 21, 22, 23, 24, 25] (by decide +kernel) (by decide +kernel)
set_option maxRecDepth 20000 in
theorem gX6_deadIn_X4_blockIn : GoodIn wsX6_deadIn (wsV RX6 60 RX4 yX4_blockIn wsX4_blockIn) := goodIn_app (goodIn_of _ (by decide +kernel)) ggX6_deadIn_X4_blockIn
theorem dX6_deadIn_0 : decode cX6_deadIn 0 = .ok (.aload_n 0, 1) := by decide +kernel
theorem dX6_deadIn_1 : decode cX6_deadIn 1 = .ok (.getfield 9, 3) := by decide +kernel
theorem dX6_deadIn_4 : decode cX6_deadIn 4 = .ok (.aload_n 0, 1) := by decide +kernel
theorem dX6_deadIn_5 : decode cX6_deadIn 5 = .ok (.getfield 9, 3) := by decide +kernel
theorem dX6_deadIn_8 : decode cX6_deadIn 8 = .ok (.iload_n 1, 1) := by decide +kernel
theorem dX6_deadIn_9 : decode cX6_deadIn 9 = .ok (.invokevirtual 36, 3) := by decide +kernel
theorem dX6_deadIn_12 : decode cX6_deadIn 12 = .ok (.iload_n 2, 1) := by decide +kernel
theorem dX6_deadIn_13 : decode cX6_deadIn 13 = .ok (.invokevirtual 60, 3) := by decide +kernel
theorem dX6_deadIn_16 : decode cX6_deadIn 16 = .ok (.istore_n 3, 1) := by decide +kernel
theorem dX6_deadIn_17 : decode cX6_deadIn 17 = .ok (.iload_n 3, 1) := by decide +kernel
theorem dX6_deadIn_18 : decode cX6_deadIn 18 = .ok (.aload_n 0, 1) := by decide +kernel
theorem dX6_deadIn_19 : decode cX6_deadIn 19 = .ok (.getfield 9, 3) := by decide +kernel
theorem dX6_deadIn_22 : decode cX6_deadIn 22 = .ok (.iload_n 1, 1) := by decide +kernel
theorem dX6_deadIn_23 : decode cX6_deadIn 23 = .ok (.iload_n 2, 1) := by decide +kernel
theorem dX6_deadIn_24 : decode cX6_deadIn 24 = .ok (.invokevirtual 60, 3) := by decide +kernel
theorem dX6_deadIn_27 : decode cX6_deadIn 27 = .ok (.if_icmp .eq 7, 3) := by decide +kernel
theorem dX6_deadIn_30 : decode cX6_deadIn 30 = .ok (.iload_n 3, 1) := by decide +kernel
theorem dX6_deadIn_31 : decode cX6_deadIn 31 = .ok (.goto 4, 3) := by decide +kernel
theorem dX6_deadIn_34 : decode cX6_deadIn 34 = .ok (.iconst (-1), 1) := by decide +kernel
theorem dX6_deadIn_35 : decode cX6_deadIn 35 = .ok (.ireturn, 1) := by decide +kernel
set_option maxRecDepth 20000 in
theorem ggX6_isLater_X4_birthOf : GoodIn wsX6_isLater wsX4_birthOf := goodIn_r _ [6, 7, 14, 15, 16, 17, 18, 19, 20, 21, 22, 23, 24] (by decide +kernel) (by decide +kernel)
set_option maxRecDepth 20000 in
theorem gX6_isLater_X4_birthOf : GoodIn wsX6_isLater (wsV RX6 70 RX4 yX4_birthOf wsX4_birthOf) := goodIn_app (goodIn_of _ (by decide +kernel)) ggX6_isLater_X4_birthOf
set_option maxRecDepth 20000 in
theorem ggX6_isLater_J6_compare_7cf53 : GoodIn wsX6_isLater wsJ6_compare_7cf53 := goodIn_r _ [11] (by decide +kernel) (by decide +kernel)
set_option maxRecDepth 20000 in
theorem gX6_isLater_J6_compare_7cf53 : GoodIn wsX6_isLater (va_wsS RX6 94 yJ6_compare_7cf53 wsJ6_compare_7cf53) := goodIn_app (goodIn_of _ (by decide +kernel)) ggX6_isLater_J6_compare_7cf53
theorem dX6_isLater_0 : decode cX6_isLater 0 = .ok (.aload_n 0, 1) := by decide +kernel
theorem dX6_isLater_1 : decode cX6_isLater 1 = .ok (.getfield 9, 3) := by decide +kernel
theorem dX6_isLater_4 : decode cX6_isLater 4 = .ok (.iload_n 1, 1) := by decide +kernel
theorem dX6_isLater_5 : decode cX6_isLater 5 = .ok (.invokevirtual 70, 3) := by decide +kernel
theorem dX6_isLater_8 : decode cX6_isLater 8 = .ok (.aload_n 0, 1) := by decide +kernel
theorem dX6_isLater_9 : decode cX6_isLater 9 = .ok (.getfield 9, 3) := by decide +kernel
theorem dX6_isLater_12 : decode cX6_isLater 12 = .ok (.iload_n 2, 1) := by decide +kernel
theorem dX6_isLater_13 : decode cX6_isLater 13 = .ok (.invokevirtual 70, 3) := by decide +kernel
theorem dX6_isLater_16 : decode cX6_isLater 16 = .ok (.invokestatic 94, 3) := by decide +kernel
theorem dX6_isLater_19 : decode cX6_isLater 19 = .ok (.istore_n 3, 1) := by decide +kernel
theorem dX6_isLater_20 : decode cX6_isLater 20 = .ok (.iload_n 3, 1) := by decide +kernel
theorem dX6_isLater_21 : decode cX6_isLater 21 = .ok (.ifCond .eq 15, 3) := by decide +kernel
theorem dX6_isLater_24 : decode cX6_isLater 24 = .ok (.iload_n 3, 1) := by decide +kernel
theorem dX6_isLater_25 : decode cX6_isLater 25 = .ok (.ifCond .le 7, 3) := by decide +kernel
theorem dX6_isLater_28 : decode cX6_isLater 28 = .ok (.iconst 1, 1) := by decide +kernel
theorem dX6_isLater_29 : decode cX6_isLater 29 = .ok (.goto 17, 3) := by decide +kernel
theorem dX6_isLater_32 : decode cX6_isLater 32 = .ok (.iconst 0, 1) := by decide +kernel
theorem dX6_isLater_33 : decode cX6_isLater 33 = .ok (.goto 13, 3) := by decide +kernel
theorem dX6_isLater_36 : decode cX6_isLater 36 = .ok (.iload_n 1, 1) := by decide +kernel
theorem dX6_isLater_37 : decode cX6_isLater 37 = .ok (.iload_n 2, 1) := by decide +kernel
theorem dX6_isLater_38 : decode cX6_isLater 38 = .ok (.if_icmp .ge 7, 3) := by decide +kernel
theorem dX6_isLater_41 : decode cX6_isLater 41 = .ok (.iconst 1, 1) := by decide +kernel
theorem dX6_isLater_42 : decode cX6_isLater 42 = .ok (.goto 4, 3) := by decide +kernel
theorem dX6_isLater_45 : decode cX6_isLater 45 = .ok (.iconst 0, 1) := by decide +kernel
theorem dX6_isLater_46 : decode cX6_isLater 46 = .ok (.ireturn, 1) := by decide +kernel
set_option maxRecDepth 20000 in
theorem ggX6_sizeOfDeadList_X4_isHolder : GoodIn wsX6_sizeOfDeadList wsX4_isHolder := goodIn_r _ [7, 8, 9, 10, 6, 11, 12, 50, 51, 52, 53, 54, 55, 56, 57, 58, 59, 60] (by decide +kernel) (by decide +kernel)
set_option maxRecDepth 20000 in
theorem gX6_sizeOfDeadList_X4_isHolder : GoodIn wsX6_sizeOfDeadList (wsV RX6 97 RX4 yX4_isHolder wsX4_isHolder) := goodIn_app (goodIn_of _ (by decide +kernel)) ggX6_sizeOfDeadList_X4_isHolder
set_option maxRecDepth 20000 in
theorem ggX6_sizeOfDeadList_X4_inChain : GoodIn wsX6_sizeOfDeadList wsX4_inChain := goodIn_r _ [16, 17, 18, 19, 6, 20, 21, 50, 51, 52, 53, 54, 55, 56, 57, 58, 59, 60] (by decide +kernel) (by decide +kernel)
set_option maxRecDepth 20000 in
theorem gX6_sizeOfDeadList_X4_inChain : GoodIn wsX6_sizeOfDeadList (wsV RX6 101 RX4 yX4_inChain wsX4_inChain) := goodIn_app (goodIn_of _ (by decide +kernel)) ggX6_sizeOfDeadList_X4_inChain
set_option maxRecDepth 20000 in
theorem ggX6_sizeOfDeadList_X4_prevOf : GoodIn wsX6_sizeOfDeadList wsX4_prevOf := goodIn_r _ [20, 21, 50, 51, 52, 53, 54, 55, 56, 57, 58, 59, 60] (by decide +kernel) (by decide +kernel)
set_option maxRecDepth 20000 in
theorem gX6_sizeOfDeadList_X4_prevOf : GoodIn wsX6_sizeOfDeadList (wsV RX6 36 RX4 yX4_prevOf wsX4_prevOf) := goodIn_app (goodIn_of _ (by decide +kernel)) ggX6_sizeOfDeadList_X4_prevOf
set_option maxRecDepth 20000 in
theorem ggX6_sizeOfDeadList_X4_madeOf : GoodIn wsX6_sizeOfDeadList wsX4_madeOf := goodIn_r _ [26, 27, 50, 51, 52, 53, 54, 55, 56, 57, 58, 59, 60] (by decide +kernel) (by decide +kernel)
set_option maxRecDepth 20000 in
theorem gX6_sizeOfDeadList_X4_madeOf : GoodIn wsX6_sizeOfDeadList (wsV RX6 33 RX4 yX4_madeOf wsX4_madeOf) := goodIn_app (goodIn_of _ (by decide +kernel)) ggX6_sizeOfDeadList_X4_madeOf
set_option maxRecDepth 20000 in
theorem ggX6_sizeOfDeadList_X6_deadIn : GoodIn wsX6_sizeOfDeadList wsX6_deadIn := goodIn_r _ [32, 1, 22, 18, 19, 6, 20, 21, 33, 34, 35, 36, 37, 48, 49, 50, 51, 52, 53, 54, 55, 56, 57, 58, 59, 60] (by decide +kernel) (by decide +kernel)
set_option maxRecDepth 20000 in
theorem gX6_sizeOfDeadList_X6_deadIn : GoodIn wsX6_sizeOfDeadList (wsV RX6 87 RX6 yX6_deadIn wsX6_deadIn) := goodIn_app (goodIn_of _ (by decide +kernel)) ggX6_sizeOfDeadList_X6_deadIn
set_option maxRecDepth 20000 in
theorem ggX6_sizeOfDeadList_X4_birthOf : GoodIn wsX6_sizeOfDeadList wsX4_birthOf := goodIn_r _ [41, 42, 50, 51, 52, 53, 54, 55, 56, 57, 58, 59, 60] (by decide +kernel) (by decide +kernel)
set_option maxRecDepth 20000 in
theorem gX6_sizeOfDeadList_X4_birthOf : GoodIn wsX6_sizeOfDeadList (wsV RX6 70 RX4 yX4_birthOf wsX4_birthOf) := goodIn_app (goodIn_of _ (by decide +kernel)) ggX6_sizeOfDeadList_X4_birthOf
set_option maxRecDepth 20000 in
theorem ggX6_sizeOfDeadList_X4_sizeOf : GoodIn wsX6_sizeOfDeadList wsX4_sizeOf := goodIn_r _ [46, 47, 50, 51, 52, 53, 54, 55, 56, 57, 58, 59, 60] (by decide +kernel) (by decide +kernel)
set_option maxRecDepth 20000 in
theorem gX6_sizeOfDeadList_X4_sizeOf : GoodIn wsX6_sizeOfDeadList (wsV RX6 67 RX4 yX4_sizeOf wsX4_sizeOf) := goodIn_app (goodIn_of _ (by decide +kernel)) ggX6_sizeOfDeadList_X4_sizeOf
theorem dX6_sizeOfDeadList_0 : decode cX6_sizeOfDeadList 0 = .ok (.aload_n 0, 1) := by decide +kernel
theorem dX6_sizeOfDeadList_1 : decode cX6_sizeOfDeadList 1 = .ok (.getfield 9, 3) := by decide +kernel
theorem dX6_sizeOfDeadList_4 : decode cX6_sizeOfDeadList 4 = .ok (.iload_n 1, 1) := by decide +kernel
theorem dX6_sizeOfDeadList_5 : decode cX6_sizeOfDeadList 5 = .ok (.invokevirtual 97, 3) := by decide +kernel
theorem dX6_sizeOfDeadList_8 : decode cX6_sizeOfDeadList 8 = .ok (.ifCond .eq 15, 3) := by decide +kernel
theorem dX6_sizeOfDeadList_11 : decode cX6_sizeOfDeadList 11 = .ok (.aload_n 0, 1) := by decide +kernel
theorem dX6_sizeOfDeadList_12 : decode cX6_sizeOfDeadList 12 = .ok (.getfield 9, 3) := by decide +kernel
theorem dX6_sizeOfDeadList_15 : decode cX6_sizeOfDeadList 15 = .ok (.iload_n 1, 1) := by decide +kernel
theorem dX6_sizeOfDeadList_16 : decode cX6_sizeOfDeadList 16 = .ok (.iload_n 2, 1) := by decide +kernel
theorem dX6_sizeOfDeadList_17 : decode cX6_sizeOfDeadList 17 = .ok (.invokevirtual 101, 3) := by decide +kernel
theorem dX6_sizeOfDeadList_20 : decode cX6_sizeOfDeadList 20 = .ok (.goto 4, 3) := by decide +kernel
theorem dX6_sizeOfDeadList_23 : decode cX6_sizeOfDeadList 23 = .ok (.iconst (-1), 1) := by decide +kernel
theorem dX6_sizeOfDeadList_24 : decode cX6_sizeOfDeadList 24 = .ok (.istore_n 3, 1) := by decide +kernel
theorem dX6_sizeOfDeadList_25 : decode cX6_sizeOfDeadList 25 = .ok (.iload_n 3, 1) := by decide +kernel
theorem dX6_sizeOfDeadList_26 : decode cX6_sizeOfDeadList 26 = .ok (.iconst (-1), 1) := by decide +kernel
theorem dX6_sizeOfDeadList_27 : decode cX6_sizeOfDeadList 27 = .ok (.if_icmp .ne 7, 3) := by decide +kernel
theorem dX6_sizeOfDeadList_30 : decode cX6_sizeOfDeadList 30 = .ok (.ldc2_w 104, 3) := by decide +kernel
theorem dX6_sizeOfDeadList_33 : decode cX6_sizeOfDeadList 33 = .ok (.lreturn, 1) := by decide +kernel
theorem dX6_sizeOfDeadList_34 : decode cX6_sizeOfDeadList 34 = .ok (.aload_n 0, 1) := by decide +kernel
theorem dX6_sizeOfDeadList_35 : decode cX6_sizeOfDeadList 35 = .ok (.getfield 9, 3) := by decide +kernel
theorem dX6_sizeOfDeadList_38 : decode cX6_sizeOfDeadList 38 = .ok (.aload_n 0, 1) := by decide +kernel
theorem dX6_sizeOfDeadList_39 : decode cX6_sizeOfDeadList 39 = .ok (.getfield 9, 3) := by decide +kernel
theorem dX6_sizeOfDeadList_42 : decode cX6_sizeOfDeadList 42 = .ok (.iload_n 3, 1) := by decide +kernel
theorem dX6_sizeOfDeadList_43 : decode cX6_sizeOfDeadList 43 = .ok (.invokevirtual 36, 3) := by decide +kernel
theorem dX6_sizeOfDeadList_46 : decode cX6_sizeOfDeadList 46 = .ok (.invokevirtual 33, 3) := by decide +kernel
theorem dX6_sizeOfDeadList_49 : decode cX6_sizeOfDeadList 49 = .ok (.istore 4, 2) := by decide +kernel
theorem dX6_sizeOfDeadList_51 : decode cX6_sizeOfDeadList 51 = .ok (.lconst 0, 1) := by decide +kernel
theorem dX6_sizeOfDeadList_52 : decode cX6_sizeOfDeadList 52 = .ok (.lstore 5, 2) := by decide +kernel
theorem dX6_sizeOfDeadList_54 : decode cX6_sizeOfDeadList 54 = .ok (.iconst 0, 1) := by decide +kernel
theorem dX6_sizeOfDeadList_55 : decode cX6_sizeOfDeadList 55 = .ok (.istore 7, 2) := by decide +kernel
theorem dX6_sizeOfDeadList_57 : decode cX6_sizeOfDeadList 57 = .ok (.iload 7, 2) := by decide +kernel
theorem dX6_sizeOfDeadList_59 : decode cX6_sizeOfDeadList 59 = .ok (.bipush 12, 2) := by decide +kernel
theorem dX6_sizeOfDeadList_61 : decode cX6_sizeOfDeadList 61 = .ok (.if_icmp .ge 70, 3) := by decide +kernel
theorem dX6_sizeOfDeadList_64 : decode cX6_sizeOfDeadList 64 = .ok (.aload_n 0, 1) := by decide +kernel
theorem dX6_sizeOfDeadList_65 : decode cX6_sizeOfDeadList 65 = .ok (.iload_n 1, 1) := by decide +kernel
theorem dX6_sizeOfDeadList_66 : decode cX6_sizeOfDeadList 66 = .ok (.iload 7, 2) := by decide +kernel
theorem dX6_sizeOfDeadList_68 : decode cX6_sizeOfDeadList 68 = .ok (.invokevirtual 87, 3) := by decide +kernel
theorem dX6_sizeOfDeadList_71 : decode cX6_sizeOfDeadList 71 = .ok (.istore 8, 2) := by decide +kernel
theorem dX6_sizeOfDeadList_73 : decode cX6_sizeOfDeadList 73 = .ok (.aload_n 0, 1) := by decide +kernel
theorem dX6_sizeOfDeadList_74 : decode cX6_sizeOfDeadList 74 = .ok (.getfield 9, 3) := by decide +kernel
theorem dX6_sizeOfDeadList_77 : decode cX6_sizeOfDeadList 77 = .ok (.iload 8, 2) := by decide +kernel
theorem dX6_sizeOfDeadList_79 : decode cX6_sizeOfDeadList 79 = .ok (.invokevirtual 70, 3) := by decide +kernel
theorem dX6_sizeOfDeadList_82 : decode cX6_sizeOfDeadList 82 = .ok (.istore 9, 2) := by decide +kernel
theorem dX6_sizeOfDeadList_84 : decode cX6_sizeOfDeadList 84 = .ok (.iload 8, 2) := by decide +kernel
theorem dX6_sizeOfDeadList_86 : decode cX6_sizeOfDeadList 86 = .ok (.iconst (-1), 1) := by decide +kernel
theorem dX6_sizeOfDeadList_87 : decode cX6_sizeOfDeadList 87 = .ok (.if_icmp .eq 38, 3) := by decide +kernel
theorem dX6_sizeOfDeadList_90 : decode cX6_sizeOfDeadList 90 = .ok (.iload 9, 2) := by decide +kernel
theorem dX6_sizeOfDeadList_92 : decode cX6_sizeOfDeadList 92 = .ok (.aload_n 0, 1) := by decide +kernel
theorem dX6_sizeOfDeadList_93 : decode cX6_sizeOfDeadList 93 = .ok (.getfield 9, 3) := by decide +kernel
theorem dX6_sizeOfDeadList_96 : decode cX6_sizeOfDeadList 96 = .ok (.iload_n 3, 1) := by decide +kernel
theorem dX6_sizeOfDeadList_97 : decode cX6_sizeOfDeadList 97 = .ok (.invokevirtual 33, 3) := by decide +kernel
theorem dX6_sizeOfDeadList_100 : decode cX6_sizeOfDeadList 100 = .ok (.if_icmp .gt 25, 3) := by decide +kernel
theorem dX6_sizeOfDeadList_103 : decode cX6_sizeOfDeadList 103 = .ok (.iload 9, 2) := by decide +kernel
theorem dX6_sizeOfDeadList_105 : decode cX6_sizeOfDeadList 105 = .ok (.iload 4, 2) := by decide +kernel
theorem dX6_sizeOfDeadList_107 : decode cX6_sizeOfDeadList 107 = .ok (.if_icmp .le 18, 3) := by decide +kernel
theorem dX6_sizeOfDeadList_110 : decode cX6_sizeOfDeadList 110 = .ok (.lload 5, 2) := by decide +kernel
theorem dX6_sizeOfDeadList_112 : decode cX6_sizeOfDeadList 112 = .ok (.aload_n 0, 1) := by decide +kernel
theorem dX6_sizeOfDeadList_113 : decode cX6_sizeOfDeadList 113 = .ok (.getfield 9, 3) := by decide +kernel
theorem dX6_sizeOfDeadList_116 : decode cX6_sizeOfDeadList 116 = .ok (.iload 8, 2) := by decide +kernel
theorem dX6_sizeOfDeadList_118 : decode cX6_sizeOfDeadList 118 = .ok (.invokevirtual 67, 3) := by decide +kernel
theorem dX6_sizeOfDeadList_121 : decode cX6_sizeOfDeadList 121 = .ok (.i2l, 1) := by decide +kernel
theorem dX6_sizeOfDeadList_122 : decode cX6_sizeOfDeadList 122 = .ok (.ladd, 1) := by decide +kernel
theorem dX6_sizeOfDeadList_123 : decode cX6_sizeOfDeadList 123 = .ok (.lstore 5, 2) := by decide +kernel
theorem dX6_sizeOfDeadList_125 : decode cX6_sizeOfDeadList 125 = .ok (.iinc 7 1, 3) := by decide +kernel
theorem dX6_sizeOfDeadList_128 : decode cX6_sizeOfDeadList 128 = .ok (.goto (-71), 3) := by decide +kernel
theorem dX6_sizeOfDeadList_131 : decode cX6_sizeOfDeadList 131 = .ok (.lload 5, 2) := by decide +kernel
theorem dX6_sizeOfDeadList_133 : decode cX6_sizeOfDeadList 133 = .ok (.lreturn, 1) := by decide +kernel
set_option maxRecDepth 20000 in
theorem ggX6_sizeHeldOnlyBy_X2_look : GoodIn wsX6_sizeHeldOnlyBy wsX2_look := goodIn_r _ [7, 8, 9, 10, 11, 12, 13, 14, 15, 27, 28, 29, 30, 31, 32, 33, 34, 35, 36, 37, 38, 39] (by decide +kernel) (by decide +kernel)
set_option maxRecDepth 20000 in
theorem gX6_sizeHeldOnlyBy_X2_look : GoodIn wsX6_sizeHeldOnlyBy (wsV RX6 73 RX2 yX2_look wsX2_look) := goodIn_app (goodIn_of _ (by decide +kernel)) ggX6_sizeHeldOnlyBy_X2_look
set_option maxRecDepth 20000 in
theorem ggX6_sizeHeldOnlyBy_X2_setOf : GoodIn wsX6_sizeHeldOnlyBy wsX2_setOf := goodIn_r _ [19, 8, 27, 28] (by decide +kernel) (by decide +kernel)
set_option maxRecDepth 20000 in
theorem gX6_sizeHeldOnlyBy_X2_setOf : GoodIn wsX6_sizeHeldOnlyBy (wsV RX6 76 RX2 yX2_setOf wsX2_setOf) := goodIn_app (goodIn_of _ (by decide +kernel)) ggX6_sizeHeldOnlyBy_X2_setOf
set_option maxRecDepth 20000 in
theorem ggX6_sizeHeldOnlyBy_X4_sizeOf : GoodIn wsX6_sizeHeldOnlyBy wsX4_sizeOf := goodIn_r _ [23, 24, 29, 30, 31, 32, 33, 34, 35, 36, 37, 38, 39] (by decide +kernel) (by decide +kernel)
set_option maxRecDepth 20000 in
theorem gX6_sizeHeldOnlyBy_X4_sizeOf : GoodIn wsX6_sizeHeldOnlyBy (wsV RX6 67 RX4 yX4_sizeOf wsX4_sizeOf) := goodIn_app (goodIn_of _ (by decide +kernel)) ggX6_sizeHeldOnlyBy_X4_sizeOf
theorem dX6_sizeHeldOnlyBy_0 : decode cX6_sizeHeldOnlyBy 0 = .ok (.aload_n 0, 1) := by decide +kernel
theorem dX6_sizeHeldOnlyBy_1 : decode cX6_sizeHeldOnlyBy 1 = .ok (.getfield 20, 3) := by decide +kernel
theorem dX6_sizeHeldOnlyBy_4 : decode cX6_sizeHeldOnlyBy 4 = .ok (.invokevirtual 73, 3) := by decide +kernel
theorem dX6_sizeHeldOnlyBy_7 : decode cX6_sizeHeldOnlyBy 7 = .ok (.lconst 0, 1) := by decide +kernel
theorem dX6_sizeHeldOnlyBy_8 : decode cX6_sizeHeldOnlyBy 8 = .ok (.lstore_n 2, 1) := by decide +kernel
theorem dX6_sizeHeldOnlyBy_9 : decode cX6_sizeHeldOnlyBy 9 = .ok (.iconst 0, 1) := by decide +kernel
theorem dX6_sizeHeldOnlyBy_10 : decode cX6_sizeHeldOnlyBy 10 = .ok (.istore 4, 2) := by decide +kernel
theorem dX6_sizeHeldOnlyBy_12 : decode cX6_sizeHeldOnlyBy 12 = .ok (.iload 4, 2) := by decide +kernel
theorem dX6_sizeHeldOnlyBy_14 : decode cX6_sizeHeldOnlyBy 14 = .ok (.bipush 96, 2) := by decide +kernel
theorem dX6_sizeHeldOnlyBy_16 : decode cX6_sizeHeldOnlyBy 16 = .ok (.if_icmp .ge 38, 3) := by decide +kernel
theorem dX6_sizeHeldOnlyBy_19 : decode cX6_sizeHeldOnlyBy 19 = .ok (.aload_n 0, 1) := by decide +kernel
theorem dX6_sizeHeldOnlyBy_20 : decode cX6_sizeHeldOnlyBy 20 = .ok (.getfield 20, 3) := by decide +kernel
theorem dX6_sizeHeldOnlyBy_23 : decode cX6_sizeHeldOnlyBy 23 = .ok (.iload 4, 2) := by decide +kernel
theorem dX6_sizeHeldOnlyBy_25 : decode cX6_sizeHeldOnlyBy 25 = .ok (.invokevirtual 76, 3) := by decide +kernel
theorem dX6_sizeHeldOnlyBy_28 : decode cX6_sizeHeldOnlyBy 28 = .ok (.iload_n 1, 1) := by decide +kernel
theorem dX6_sizeHeldOnlyBy_29 : decode cX6_sizeHeldOnlyBy 29 = .ok (.iconst (-1), 1) := by decide +kernel
theorem dX6_sizeHeldOnlyBy_30 : decode cX6_sizeHeldOnlyBy 30 = .ok (.ixor, 1) := by decide +kernel
theorem dX6_sizeHeldOnlyBy_31 : decode cX6_sizeHeldOnlyBy 31 = .ok (.iand, 1) := by decide +kernel
theorem dX6_sizeHeldOnlyBy_32 : decode cX6_sizeHeldOnlyBy 32 = .ok (.ifCond .ne 16, 3) := by decide +kernel
theorem dX6_sizeHeldOnlyBy_35 : decode cX6_sizeHeldOnlyBy 35 = .ok (.lload_n 2, 1) := by decide +kernel
theorem dX6_sizeHeldOnlyBy_36 : decode cX6_sizeHeldOnlyBy 36 = .ok (.aload_n 0, 1) := by decide +kernel
theorem dX6_sizeHeldOnlyBy_37 : decode cX6_sizeHeldOnlyBy 37 = .ok (.getfield 9, 3) := by decide +kernel
theorem dX6_sizeHeldOnlyBy_40 : decode cX6_sizeHeldOnlyBy 40 = .ok (.iload 4, 2) := by decide +kernel
theorem dX6_sizeHeldOnlyBy_42 : decode cX6_sizeHeldOnlyBy 42 = .ok (.invokevirtual 67, 3) := by decide +kernel
theorem dX6_sizeHeldOnlyBy_45 : decode cX6_sizeHeldOnlyBy 45 = .ok (.i2l, 1) := by decide +kernel
theorem dX6_sizeHeldOnlyBy_46 : decode cX6_sizeHeldOnlyBy 46 = .ok (.ladd, 1) := by decide +kernel
theorem dX6_sizeHeldOnlyBy_47 : decode cX6_sizeHeldOnlyBy 47 = .ok (.lstore_n 2, 1) := by decide +kernel
theorem dX6_sizeHeldOnlyBy_48 : decode cX6_sizeHeldOnlyBy 48 = .ok (.iinc 4 1, 3) := by decide +kernel
theorem dX6_sizeHeldOnlyBy_51 : decode cX6_sizeHeldOnlyBy 51 = .ok (.goto (-39), 3) := by decide +kernel
theorem dX6_sizeHeldOnlyBy_54 : decode cX6_sizeHeldOnlyBy 54 = .ok (.lload_n 2, 1) := by decide +kernel
theorem dX6_sizeHeldOnlyBy_55 : decode cX6_sizeHeldOnlyBy 55 = .ok (.lreturn, 1) := by decide +kernel
set_option maxRecDepth 20000 in
theorem ggX6_sizeOfRange_X4_isSnapshot : GoodIn wsX6_sizeOfRange wsX4_isSnapshot := goodIn_r _ [7, 8, 9, 10, 6, 11, 12, 47, 48, 49, 50, 51, 52, 53, 54, 55, 56, 57] (by decide +kernel) (by decide +kernel)
set_option maxRecDepth 20000 in
theorem gX6_sizeOfRange_X4_isSnapshot : GoodIn wsX6_sizeOfRange (wsV RX6 106 RX4 yX4_isSnapshot wsX4_isSnapshot) := goodIn_app (goodIn_of _ (by decide +kernel)) ggX6_sizeOfRange_X4_isSnapshot
set_option maxRecDepth 20000 in
theorem ggX6_sizeOfRange_X6_sizeHeldOnlyBy : GoodIn wsX6_sizeOfRange wsX6_sizeHeldOnlyBy := goodIn_r _ [17, 18, 1, 19, 20, 21, 22, 23, 24, 25, 26, 27, 28, 6, 29, 30, 31, 32, 33, 34, 35, 36, 37, 38, 39, 45, 46, 58, 59, 47, 48, 49, 50, 51, 52, 53, 54, 55, 56, 57] (by decide +kernel) (by decide +kernel)
set_option maxRecDepth 20000 in
theorem gX6_sizeOfRange_X6_sizeHeldOnlyBy : GoodIn wsX6_sizeOfRange (wsV RX6 109 RX6 yX6_sizeHeldOnlyBy wsX6_sizeHeldOnlyBy) := goodIn_app (goodIn_of _ (by decide +kernel)) ggX6_sizeOfRange_X6_sizeHeldOnlyBy
set_option maxRecDepth 20000 in
theorem ggX6_sizeOfRange_X4_prevOf : GoodIn wsX6_sizeOfRange wsX4_prevOf := goodIn_r _ [43, 44, 47, 48, 49, 50, 51, 52, 53, 54, 55, 56, 57] (by decide +kernel) (by decide +kernel)
set_option maxRecDepth 20000 in
theorem gX6_sizeOfRange_X4_prevOf : GoodIn wsX6_sizeOfRange (wsV RX6 36 RX4 yX4_prevOf wsX4_prevOf) := goodIn_app (goodIn_of _ (by decide +kernel)) ggX6_sizeOfRange_X4_prevOf
theorem dX6_sizeOfRange_0 : decode cX6_sizeOfRange 0 = .ok (.aload_n 0, 1) := by decide +kernel
theorem dX6_sizeOfRange_1 : decode cX6_sizeOfRange 1 = .ok (.getfield 9, 3) := by decide +kernel
theorem dX6_sizeOfRange_4 : decode cX6_sizeOfRange 4 = .ok (.iload_n 1, 1) := by decide +kernel
theorem dX6_sizeOfRange_5 : decode cX6_sizeOfRange 5 = .ok (.invokevirtual 106, 3) := by decide +kernel
theorem dX6_sizeOfRange_8 : decode cX6_sizeOfRange 8 = .ok (.ifCond .eq 14, 3) := by decide +kernel
theorem dX6_sizeOfRange_11 : decode cX6_sizeOfRange 11 = .ok (.aload_n 0, 1) := by decide +kernel
theorem dX6_sizeOfRange_12 : decode cX6_sizeOfRange 12 = .ok (.getfield 9, 3) := by decide +kernel
theorem dX6_sizeOfRange_15 : decode cX6_sizeOfRange 15 = .ok (.iload_n 2, 1) := by decide +kernel
theorem dX6_sizeOfRange_16 : decode cX6_sizeOfRange 16 = .ok (.invokevirtual 106, 3) := by decide +kernel
theorem dX6_sizeOfRange_19 : decode cX6_sizeOfRange 19 = .ok (.ifCond .ne 7, 3) := by decide +kernel
theorem dX6_sizeOfRange_22 : decode cX6_sizeOfRange 22 = .ok (.ldc2_w 104, 3) := by decide +kernel
theorem dX6_sizeOfRange_25 : decode cX6_sizeOfRange 25 = .ok (.lreturn, 1) := by decide +kernel
theorem dX6_sizeOfRange_26 : decode cX6_sizeOfRange 26 = .ok (.iconst 0, 1) := by decide +kernel
theorem dX6_sizeOfRange_27 : decode cX6_sizeOfRange 27 = .ok (.istore_n 3, 1) := by decide +kernel
theorem dX6_sizeOfRange_28 : decode cX6_sizeOfRange 28 = .ok (.iload_n 2, 1) := by decide +kernel
theorem dX6_sizeOfRange_29 : decode cX6_sizeOfRange 29 = .ok (.istore 4, 2) := by decide +kernel
theorem dX6_sizeOfRange_31 : decode cX6_sizeOfRange 31 = .ok (.iconst 0, 1) := by decide +kernel
theorem dX6_sizeOfRange_32 : decode cX6_sizeOfRange 32 = .ok (.istore 5, 2) := by decide +kernel
theorem dX6_sizeOfRange_34 : decode cX6_sizeOfRange 34 = .ok (.iload 5, 2) := by decide +kernel
theorem dX6_sizeOfRange_36 : decode cX6_sizeOfRange 36 = .ok (.bipush 20, 2) := by decide +kernel
theorem dX6_sizeOfRange_38 : decode cX6_sizeOfRange 38 = .ok (.if_icmp .ge 45, 3) := by decide +kernel
theorem dX6_sizeOfRange_41 : decode cX6_sizeOfRange 41 = .ok (.iload 4, 2) := by decide +kernel
theorem dX6_sizeOfRange_43 : decode cX6_sizeOfRange 43 = .ok (.iconst (-1), 1) := by decide +kernel
theorem dX6_sizeOfRange_44 : decode cX6_sizeOfRange 44 = .ok (.if_icmp .eq 39, 3) := by decide +kernel
theorem dX6_sizeOfRange_47 : decode cX6_sizeOfRange 47 = .ok (.iload_n 3, 1) := by decide +kernel
theorem dX6_sizeOfRange_48 : decode cX6_sizeOfRange 48 = .ok (.iconst 1, 1) := by decide +kernel
theorem dX6_sizeOfRange_49 : decode cX6_sizeOfRange 49 = .ok (.iload 4, 2) := by decide +kernel
theorem dX6_sizeOfRange_51 : decode cX6_sizeOfRange 51 = .ok (.ishl, 1) := by decide +kernel
theorem dX6_sizeOfRange_52 : decode cX6_sizeOfRange 52 = .ok (.ior, 1) := by decide +kernel
theorem dX6_sizeOfRange_53 : decode cX6_sizeOfRange 53 = .ok (.istore_n 3, 1) := by decide +kernel
theorem dX6_sizeOfRange_54 : decode cX6_sizeOfRange 54 = .ok (.iload 4, 2) := by decide +kernel
theorem dX6_sizeOfRange_56 : decode cX6_sizeOfRange 56 = .ok (.iload_n 1, 1) := by decide +kernel
theorem dX6_sizeOfRange_57 : decode cX6_sizeOfRange 57 = .ok (.if_icmp .ne 9, 3) := by decide +kernel
theorem dX6_sizeOfRange_60 : decode cX6_sizeOfRange 60 = .ok (.aload_n 0, 1) := by decide +kernel
theorem dX6_sizeOfRange_61 : decode cX6_sizeOfRange 61 = .ok (.iload_n 3, 1) := by decide +kernel
theorem dX6_sizeOfRange_62 : decode cX6_sizeOfRange 62 = .ok (.invokevirtual 109, 3) := by decide +kernel
theorem dX6_sizeOfRange_65 : decode cX6_sizeOfRange 65 = .ok (.lreturn, 1) := by decide +kernel
theorem dX6_sizeOfRange_66 : decode cX6_sizeOfRange 66 = .ok (.aload_n 0, 1) := by decide +kernel
theorem dX6_sizeOfRange_67 : decode cX6_sizeOfRange 67 = .ok (.getfield 9, 3) := by decide +kernel
theorem dX6_sizeOfRange_70 : decode cX6_sizeOfRange 70 = .ok (.iload 4, 2) := by decide +kernel
theorem dX6_sizeOfRange_72 : decode cX6_sizeOfRange 72 = .ok (.invokevirtual 36, 3) := by decide +kernel
theorem dX6_sizeOfRange_75 : decode cX6_sizeOfRange 75 = .ok (.istore 4, 2) := by decide +kernel
theorem dX6_sizeOfRange_77 : decode cX6_sizeOfRange 77 = .ok (.iinc 5 1, 3) := by decide +kernel
theorem dX6_sizeOfRange_80 : decode cX6_sizeOfRange 80 = .ok (.goto (-46), 3) := by decide +kernel
theorem dX6_sizeOfRange_83 : decode cX6_sizeOfRange 83 = .ok (.ldc2_w 104, 3) := by decide +kernel
theorem dX6_sizeOfRange_86 : decode cX6_sizeOfRange 86 = .ok (.lreturn, 1) := by decide +kernel
set_option maxRecDepth 20000 in
theorem ggX6_sizeSince_X4_isHolder : GoodIn wsX6_sizeSince wsX4_isHolder := goodIn_r _ [7, 8, 9, 10, 6, 11, 12, 36, 37, 38, 39, 40, 41, 42, 43, 44, 45, 46] (by decide +kernel) (by decide +kernel)
set_option maxRecDepth 20000 in
theorem gX6_sizeSince_X4_isHolder : GoodIn wsX6_sizeSince (wsV RX6 97 RX4 yX4_isHolder wsX4_isHolder) := goodIn_app (goodIn_of _ (by decide +kernel)) ggX6_sizeSince_X4_isHolder
set_option maxRecDepth 20000 in
theorem ggX6_sizeSince_X4_kindOf : GoodIn wsX6_sizeSince wsX4_kindOf := goodIn_r _ [11, 12, 36, 37, 38, 39, 40, 41, 42, 43, 44, 45, 46] (by decide +kernel) (by decide +kernel)
set_option maxRecDepth 20000 in
theorem gX6_sizeSince_X4_kindOf : GoodIn wsX6_sizeSince (wsV RX6 30 RX4 yX4_kindOf wsX4_kindOf) := goodIn_app (goodIn_of _ (by decide +kernel)) ggX6_sizeSince_X4_kindOf
set_option maxRecDepth 20000 in
theorem ggX6_sizeSince_X4_blockIn : GoodIn wsX6_sizeSince wsX4_blockIn := goodIn_r _ [17, 18, 36, 37, 38, 39, 40, 41, 42, 43, 44, 45, 46] (by decide +kernel) (by decide +kernel)
set_option maxRecDepth 20000 in
theorem gX6_sizeSince_X4_blockIn : GoodIn wsX6_sizeSince (wsV RX6 60 RX4 yX4_blockIn wsX4_blockIn) := goodIn_app (goodIn_of _ (by decide +kernel)) ggX6_sizeSince_X4_blockIn
set_option maxRecDepth 20000 in
theorem ggX6_sizeSince_X4_birthOf : GoodIn wsX6_sizeSince wsX4_birthOf := goodIn_r _ [22, 23, 36, 37, 38, 39, 40, 41, 42, 43, 44, 45, 46] (by decide +kernel) (by decide +kernel)
set_option maxRecDepth 20000 in
theorem gX6_sizeSince_X4_birthOf : GoodIn wsX6_sizeSince (wsV RX6 70 RX4 yX4_birthOf wsX4_birthOf) := goodIn_app (goodIn_of _ (by decide +kernel)) ggX6_sizeSince_X4_birthOf
set_option maxRecDepth 20000 in
theorem ggX6_sizeSince_X4_madeOf : GoodIn wsX6_sizeSince wsX4_madeOf := goodIn_r _ [27, 28, 36, 37, 38, 39, 40, 41, 42, 43, 44, 45, 46] (by decide +kernel) (by decide +kernel)
set_option maxRecDepth 20000 in
theorem gX6_sizeSince_X4_madeOf : GoodIn wsX6_sizeSince (wsV RX6 33 RX4 yX4_madeOf wsX4_madeOf) := goodIn_app (goodIn_of _ (by decide +kernel)) ggX6_sizeSince_X4_madeOf
set_option maxRecDepth 20000 in
theorem ggX6_sizeSince_X4_sizeOf : GoodIn wsX6_sizeSince wsX4_sizeOf := goodIn_r _ [32, 33, 36, 37, 38, 39, 40, 41, 42, 43, 44, 45, 46] (by decide +kernel) (by decide +kernel)
set_option maxRecDepth 20000 in
theorem gX6_sizeSince_X4_sizeOf : GoodIn wsX6_sizeSince (wsV RX6 67 RX4 yX4_sizeOf wsX4_sizeOf) := goodIn_app (goodIn_of _ (by decide +kernel)) ggX6_sizeSince_X4_sizeOf
theorem dX6_sizeSince_0 : decode cX6_sizeSince 0 = .ok (.aload_n 0, 1) := by decide +kernel
theorem dX6_sizeSince_1 : decode cX6_sizeSince 1 = .ok (.getfield 9, 3) := by decide +kernel
theorem dX6_sizeSince_4 : decode cX6_sizeSince 4 = .ok (.iload_n 1, 1) := by decide +kernel
theorem dX6_sizeSince_5 : decode cX6_sizeSince 5 = .ok (.invokevirtual 97, 3) := by decide +kernel
theorem dX6_sizeSince_8 : decode cX6_sizeSince 8 = .ok (.ifCond .eq 15, 3) := by decide +kernel
theorem dX6_sizeSince_11 : decode cX6_sizeSince 11 = .ok (.aload_n 0, 1) := by decide +kernel
theorem dX6_sizeSince_12 : decode cX6_sizeSince 12 = .ok (.getfield 9, 3) := by decide +kernel
theorem dX6_sizeSince_15 : decode cX6_sizeSince 15 = .ok (.iload_n 2, 1) := by decide +kernel
theorem dX6_sizeSince_16 : decode cX6_sizeSince 16 = .ok (.invokevirtual 30, 3) := by decide +kernel
theorem dX6_sizeSince_19 : decode cX6_sizeSince 19 = .ok (.iconst (-1), 1) := by decide +kernel
theorem dX6_sizeSince_20 : decode cX6_sizeSince 20 = .ok (.if_icmp .ne 7, 3) := by decide +kernel
theorem dX6_sizeSince_23 : decode cX6_sizeSince 23 = .ok (.ldc2_w 104, 3) := by decide +kernel
theorem dX6_sizeSince_26 : decode cX6_sizeSince 26 = .ok (.lreturn, 1) := by decide +kernel
theorem dX6_sizeSince_27 : decode cX6_sizeSince 27 = .ok (.lconst 0, 1) := by decide +kernel
theorem dX6_sizeSince_28 : decode cX6_sizeSince 28 = .ok (.lstore_n 3, 1) := by decide +kernel
theorem dX6_sizeSince_29 : decode cX6_sizeSince 29 = .ok (.iconst 0, 1) := by decide +kernel
theorem dX6_sizeSince_30 : decode cX6_sizeSince 30 = .ok (.istore 5, 2) := by decide +kernel
theorem dX6_sizeSince_32 : decode cX6_sizeSince 32 = .ok (.iload 5, 2) := by decide +kernel
theorem dX6_sizeSince_34 : decode cX6_sizeSince 34 = .ok (.bipush 12, 2) := by decide +kernel
theorem dX6_sizeSince_36 : decode cX6_sizeSince 36 = .ok (.if_icmp .ge 54, 3) := by decide +kernel
theorem dX6_sizeSince_39 : decode cX6_sizeSince 39 = .ok (.aload_n 0, 1) := by decide +kernel
theorem dX6_sizeSince_40 : decode cX6_sizeSince 40 = .ok (.getfield 9, 3) := by decide +kernel
theorem dX6_sizeSince_43 : decode cX6_sizeSince 43 = .ok (.iload_n 1, 1) := by decide +kernel
theorem dX6_sizeSince_44 : decode cX6_sizeSince 44 = .ok (.iload 5, 2) := by decide +kernel
theorem dX6_sizeSince_46 : decode cX6_sizeSince 46 = .ok (.invokevirtual 60, 3) := by decide +kernel
theorem dX6_sizeSince_49 : decode cX6_sizeSince 49 = .ok (.istore 6, 2) := by decide +kernel
theorem dX6_sizeSince_51 : decode cX6_sizeSince 51 = .ok (.aload_n 0, 1) := by decide +kernel
theorem dX6_sizeSince_52 : decode cX6_sizeSince 52 = .ok (.getfield 9, 3) := by decide +kernel
theorem dX6_sizeSince_55 : decode cX6_sizeSince 55 = .ok (.iload 6, 2) := by decide +kernel
theorem dX6_sizeSince_57 : decode cX6_sizeSince 57 = .ok (.invokevirtual 70, 3) := by decide +kernel
theorem dX6_sizeSince_60 : decode cX6_sizeSince 60 = .ok (.aload_n 0, 1) := by decide +kernel
theorem dX6_sizeSince_61 : decode cX6_sizeSince 61 = .ok (.getfield 9, 3) := by decide +kernel
theorem dX6_sizeSince_64 : decode cX6_sizeSince 64 = .ok (.iload_n 2, 1) := by decide +kernel
theorem dX6_sizeSince_65 : decode cX6_sizeSince 65 = .ok (.invokevirtual 33, 3) := by decide +kernel
theorem dX6_sizeSince_68 : decode cX6_sizeSince 68 = .ok (.if_icmp .le 16, 3) := by decide +kernel
theorem dX6_sizeSince_71 : decode cX6_sizeSince 71 = .ok (.lload_n 3, 1) := by decide +kernel
theorem dX6_sizeSince_72 : decode cX6_sizeSince 72 = .ok (.aload_n 0, 1) := by decide +kernel
theorem dX6_sizeSince_73 : decode cX6_sizeSince 73 = .ok (.getfield 9, 3) := by decide +kernel
theorem dX6_sizeSince_76 : decode cX6_sizeSince 76 = .ok (.iload 6, 2) := by decide +kernel
theorem dX6_sizeSince_78 : decode cX6_sizeSince 78 = .ok (.invokevirtual 67, 3) := by decide +kernel
theorem dX6_sizeSince_81 : decode cX6_sizeSince 81 = .ok (.i2l, 1) := by decide +kernel
theorem dX6_sizeSince_82 : decode cX6_sizeSince 82 = .ok (.ladd, 1) := by decide +kernel
theorem dX6_sizeSince_83 : decode cX6_sizeSince 83 = .ok (.lstore_n 3, 1) := by decide +kernel
theorem dX6_sizeSince_84 : decode cX6_sizeSince 84 = .ok (.iinc 5 1, 3) := by decide +kernel
theorem dX6_sizeSince_87 : decode cX6_sizeSince 87 = .ok (.goto (-55), 3) := by decide +kernel
theorem dX6_sizeSince_90 : decode cX6_sizeSince 90 = .ok (.lload_n 3, 1) := by decide +kernel
theorem dX6_sizeSince_91 : decode cX6_sizeSince 91 = .ok (.lreturn, 1) := by decide +kernel
set_option maxRecDepth 20000 in
theorem ggX6_sizeInBoth_X4_isHolder : GoodIn wsX6_sizeInBoth wsX4_isHolder := goodIn_r _ [7, 8, 9, 10, 6, 11, 12, 25, 26, 27, 28, 29, 30, 31, 32, 33, 34, 35] (by decide +kernel) (by decide +kernel)
set_option maxRecDepth 20000 in
theorem gX6_sizeInBoth_X4_isHolder : GoodIn wsX6_sizeInBoth (wsV RX6 97 RX4 yX4_isHolder wsX4_isHolder) := goodIn_app (goodIn_of _ (by decide +kernel)) ggX6_sizeInBoth_X4_isHolder
set_option maxRecDepth 20000 in
theorem ggX6_sizeInBoth_X4_blockIn : GoodIn wsX6_sizeInBoth wsX4_blockIn := goodIn_r _ [16, 17, 25, 26, 27, 28, 29, 30, 31, 32, 33, 34, 35] (by decide +kernel) (by decide +kernel)
set_option maxRecDepth 20000 in
theorem gX6_sizeInBoth_X4_blockIn : GoodIn wsX6_sizeInBoth (wsV RX6 60 RX4 yX4_blockIn wsX4_blockIn) := goodIn_app (goodIn_of _ (by decide +kernel)) ggX6_sizeInBoth_X4_blockIn
set_option maxRecDepth 20000 in
theorem ggX6_sizeInBoth_X4_sizeOf : GoodIn wsX6_sizeInBoth wsX4_sizeOf := goodIn_r _ [21, 22, 25, 26, 27, 28, 29, 30, 31, 32, 33, 34, 35] (by decide +kernel) (by decide +kernel)
set_option maxRecDepth 20000 in
theorem gX6_sizeInBoth_X4_sizeOf : GoodIn wsX6_sizeInBoth (wsV RX6 67 RX4 yX4_sizeOf wsX4_sizeOf) := goodIn_app (goodIn_of _ (by decide +kernel)) ggX6_sizeInBoth_X4_sizeOf
theorem dX6_sizeInBoth_0 : decode cX6_sizeInBoth 0 = .ok (.aload_n 0, 1) := by decide +kernel
theorem dX6_sizeInBoth_1 : decode cX6_sizeInBoth 1 = .ok (.getfield 9, 3) := by decide +kernel
theorem dX6_sizeInBoth_4 : decode cX6_sizeInBoth 4 = .ok (.iload_n 1, 1) := by decide +kernel
theorem dX6_sizeInBoth_5 : decode cX6_sizeInBoth 5 = .ok (.invokevirtual 97, 3) := by decide +kernel
theorem dX6_sizeInBoth_8 : decode cX6_sizeInBoth 8 = .ok (.ifCond .eq 14, 3) := by decide +kernel
theorem dX6_sizeInBoth_11 : decode cX6_sizeInBoth 11 = .ok (.aload_n 0, 1) := by decide +kernel
theorem dX6_sizeInBoth_12 : decode cX6_sizeInBoth 12 = .ok (.getfield 9, 3) := by decide +kernel
theorem dX6_sizeInBoth_15 : decode cX6_sizeInBoth 15 = .ok (.iload_n 2, 1) := by decide +kernel
theorem dX6_sizeInBoth_16 : decode cX6_sizeInBoth 16 = .ok (.invokevirtual 97, 3) := by decide +kernel
theorem dX6_sizeInBoth_19 : decode cX6_sizeInBoth 19 = .ok (.ifCond .ne 7, 3) := by decide +kernel
theorem dX6_sizeInBoth_22 : decode cX6_sizeInBoth 22 = .ok (.ldc2_w 104, 3) := by decide +kernel
theorem dX6_sizeInBoth_25 : decode cX6_sizeInBoth 25 = .ok (.lreturn, 1) := by decide +kernel
theorem dX6_sizeInBoth_26 : decode cX6_sizeInBoth 26 = .ok (.lconst 0, 1) := by decide +kernel
theorem dX6_sizeInBoth_27 : decode cX6_sizeInBoth 27 = .ok (.lstore_n 3, 1) := by decide +kernel
theorem dX6_sizeInBoth_28 : decode cX6_sizeInBoth 28 = .ok (.iconst 0, 1) := by decide +kernel
theorem dX6_sizeInBoth_29 : decode cX6_sizeInBoth 29 = .ok (.istore 5, 2) := by decide +kernel
theorem dX6_sizeInBoth_31 : decode cX6_sizeInBoth 31 = .ok (.iload 5, 2) := by decide +kernel
theorem dX6_sizeInBoth_33 : decode cX6_sizeInBoth 33 = .ok (.bipush 12, 2) := by decide +kernel
theorem dX6_sizeInBoth_35 : decode cX6_sizeInBoth 35 = .ok (.if_icmp .ge 49, 3) := by decide +kernel
theorem dX6_sizeInBoth_38 : decode cX6_sizeInBoth 38 = .ok (.aload_n 0, 1) := by decide +kernel
theorem dX6_sizeInBoth_39 : decode cX6_sizeInBoth 39 = .ok (.getfield 9, 3) := by decide +kernel
theorem dX6_sizeInBoth_42 : decode cX6_sizeInBoth 42 = .ok (.iload_n 1, 1) := by decide +kernel
theorem dX6_sizeInBoth_43 : decode cX6_sizeInBoth 43 = .ok (.iload 5, 2) := by decide +kernel
theorem dX6_sizeInBoth_45 : decode cX6_sizeInBoth 45 = .ok (.invokevirtual 60, 3) := by decide +kernel
theorem dX6_sizeInBoth_48 : decode cX6_sizeInBoth 48 = .ok (.istore 6, 2) := by decide +kernel
theorem dX6_sizeInBoth_50 : decode cX6_sizeInBoth 50 = .ok (.iload 6, 2) := by decide +kernel
theorem dX6_sizeInBoth_52 : decode cX6_sizeInBoth 52 = .ok (.aload_n 0, 1) := by decide +kernel
theorem dX6_sizeInBoth_53 : decode cX6_sizeInBoth 53 = .ok (.getfield 9, 3) := by decide +kernel
theorem dX6_sizeInBoth_56 : decode cX6_sizeInBoth 56 = .ok (.iload_n 2, 1) := by decide +kernel
theorem dX6_sizeInBoth_57 : decode cX6_sizeInBoth 57 = .ok (.iload 5, 2) := by decide +kernel
theorem dX6_sizeInBoth_59 : decode cX6_sizeInBoth 59 = .ok (.invokevirtual 60, 3) := by decide +kernel
theorem dX6_sizeInBoth_62 : decode cX6_sizeInBoth 62 = .ok (.if_icmp .ne 16, 3) := by decide +kernel
theorem dX6_sizeInBoth_65 : decode cX6_sizeInBoth 65 = .ok (.lload_n 3, 1) := by decide +kernel
theorem dX6_sizeInBoth_66 : decode cX6_sizeInBoth 66 = .ok (.aload_n 0, 1) := by decide +kernel
theorem dX6_sizeInBoth_67 : decode cX6_sizeInBoth 67 = .ok (.getfield 9, 3) := by decide +kernel
theorem dX6_sizeInBoth_70 : decode cX6_sizeInBoth 70 = .ok (.iload 6, 2) := by decide +kernel
theorem dX6_sizeInBoth_72 : decode cX6_sizeInBoth 72 = .ok (.invokevirtual 67, 3) := by decide +kernel
theorem dX6_sizeInBoth_75 : decode cX6_sizeInBoth 75 = .ok (.i2l, 1) := by decide +kernel
theorem dX6_sizeInBoth_76 : decode cX6_sizeInBoth 76 = .ok (.ladd, 1) := by decide +kernel
theorem dX6_sizeInBoth_77 : decode cX6_sizeInBoth 77 = .ok (.lstore_n 3, 1) := by decide +kernel
theorem dX6_sizeInBoth_78 : decode cX6_sizeInBoth 78 = .ok (.iinc 5 1, 3) := by decide +kernel
theorem dX6_sizeInBoth_81 : decode cX6_sizeInBoth 81 = .ok (.goto (-50), 3) := by decide +kernel
theorem dX6_sizeInBoth_84 : decode cX6_sizeInBoth 84 = .ok (.lload_n 3, 1) := by decide +kernel
theorem dX6_sizeInBoth_85 : decode cX6_sizeInBoth 85 = .ok (.lreturn, 1) := by decide +kernel
set_option maxRecDepth 20000 in
theorem ggX6_writeDifference_X5_layOut : GoodIn wsX6_writeDifference wsX5_layOut := goodIn_r _ [6, 7, 8, 9, 10, 11, 12, 13, 14, 15, 16, 42, 43, 44] (by decide +kernel) (by decide +kernel)
set_option maxRecDepth 20000 in
theorem gX6_writeDifference_X5_layOut : GoodIn wsX6_writeDifference (wsV RX6 113 RX5 yX5_layOut wsX5_layOut) := goodIn_app (goodIn_of _ (by decide +kernel)) ggX6_writeDifference_X5_layOut
set_option maxRecDepth 20000 in
theorem ggX6_writeDifference_X4_blockIn : GoodIn wsX6_writeDifference wsX4_blockIn := goodIn_r _ [21, 22, 45, 46, 47, 48, 49, 50, 51, 52, 53, 54, 55] (by decide +kernel) (by decide +kernel)
set_option maxRecDepth 20000 in
theorem gX6_writeDifference_X4_blockIn : GoodIn wsX6_writeDifference (wsV RX6 60 RX4 yX4_blockIn wsX4_blockIn) := goodIn_app (goodIn_of _ (by decide +kernel)) ggX6_writeDifference_X4_blockIn
set_option maxRecDepth 20000 in
theorem ggX6_writeDifference_X5_append : GoodIn wsX6_writeDifference wsX5_append := goodIn_r _ [26, 15, 27, 28, 29, 5, 30, 16, 7, 42, 43, 44] (by decide +kernel) (by decide +kernel)
set_option maxRecDepth 20000 in
theorem gX6_writeDifference_X5_append : GoodIn wsX6_writeDifference (wsV RX6 119 RX5 yX5_append wsX5_append) := goodIn_app (goodIn_of _ (by decide +kernel)) ggX6_writeDifference_X5_append
set_option maxRecDepth 20000 in
theorem ggX6_writeDifference_X4_sizeOf : GoodIn wsX6_writeDifference wsX4_sizeOf := goodIn_r _ [34, 35, 45, 46, 47, 48, 49, 50, 51, 52, 53, 54, 55] (by decide +kernel) (by decide +kernel)
set_option maxRecDepth 20000 in
theorem gX6_writeDifference_X4_sizeOf : GoodIn wsX6_writeDifference (wsV RX6 67 RX4 yX4_sizeOf wsX4_sizeOf) := goodIn_app (goodIn_of _ (by decide +kernel)) ggX6_writeDifference_X4_sizeOf
set_option maxRecDepth 20000 in
theorem ggX6_writeDifference_X5_size : GoodIn wsX6_writeDifference wsX5_size := goodIn_r _ [39, 15, 42, 43, 44] (by decide +kernel) (by decide +kernel)
set_option maxRecDepth 20000 in
theorem gX6_writeDifference_X5_size : GoodIn wsX6_writeDifference (wsV RX6 123 RX5 yX5_size wsX5_size) := goodIn_app (goodIn_of _ (by decide +kernel)) ggX6_writeDifference_X5_size
theorem dX6_writeDifference_0 : decode cX6_writeDifference 0 = .ok (.aload_n 3, 1) := by decide +kernel
theorem dX6_writeDifference_1 : decode cX6_writeDifference 1 = .ok (.iconst 1, 1) := by decide +kernel
theorem dX6_writeDifference_2 : decode cX6_writeDifference 2 = .ok (.iconst 0, 1) := by decide +kernel
theorem dX6_writeDifference_3 : decode cX6_writeDifference 3 = .ok (.invokevirtual 113, 3) := by decide +kernel
theorem dX6_writeDifference_6 : decode cX6_writeDifference 6 = .ok (.iconst 0, 1) := by decide +kernel
theorem dX6_writeDifference_7 : decode cX6_writeDifference 7 = .ok (.istore 4, 2) := by decide +kernel
theorem dX6_writeDifference_9 : decode cX6_writeDifference 9 = .ok (.iload 4, 2) := by decide +kernel
theorem dX6_writeDifference_11 : decode cX6_writeDifference 11 = .ok (.bipush 12, 2) := by decide +kernel
theorem dX6_writeDifference_13 : decode cX6_writeDifference 13 = .ok (.if_icmp .ge 57, 3) := by decide +kernel
theorem dX6_writeDifference_16 : decode cX6_writeDifference 16 = .ok (.aload_n 0, 1) := by decide +kernel
theorem dX6_writeDifference_17 : decode cX6_writeDifference 17 = .ok (.getfield 9, 3) := by decide +kernel
theorem dX6_writeDifference_20 : decode cX6_writeDifference 20 = .ok (.iload_n 2, 1) := by decide +kernel
theorem dX6_writeDifference_21 : decode cX6_writeDifference 21 = .ok (.iload 4, 2) := by decide +kernel
theorem dX6_writeDifference_23 : decode cX6_writeDifference 23 = .ok (.invokevirtual 60, 3) := by decide +kernel
theorem dX6_writeDifference_26 : decode cX6_writeDifference 26 = .ok (.istore 5, 2) := by decide +kernel
theorem dX6_writeDifference_28 : decode cX6_writeDifference 28 = .ok (.iload 5, 2) := by decide +kernel
theorem dX6_writeDifference_30 : decode cX6_writeDifference 30 = .ok (.aload_n 0, 1) := by decide +kernel
theorem dX6_writeDifference_31 : decode cX6_writeDifference 31 = .ok (.getfield 9, 3) := by decide +kernel
theorem dX6_writeDifference_34 : decode cX6_writeDifference 34 = .ok (.iload_n 1, 1) := by decide +kernel
theorem dX6_writeDifference_35 : decode cX6_writeDifference 35 = .ok (.iload 4, 2) := by decide +kernel
theorem dX6_writeDifference_37 : decode cX6_writeDifference 37 = .ok (.invokevirtual 60, 3) := by decide +kernel
theorem dX6_writeDifference_40 : decode cX6_writeDifference 40 = .ok (.if_icmp .eq 24, 3) := by decide +kernel
theorem dX6_writeDifference_43 : decode cX6_writeDifference 43 = .ok (.aload_n 3, 1) := by decide +kernel
theorem dX6_writeDifference_44 : decode cX6_writeDifference 44 = .ok (.iload 4, 2) := by decide +kernel
theorem dX6_writeDifference_46 : decode cX6_writeDifference 46 = .ok (.i2l, 1) := by decide +kernel
theorem dX6_writeDifference_47 : decode cX6_writeDifference 47 = .ok (.invokevirtual 119, 3) := by decide +kernel
theorem dX6_writeDifference_50 : decode cX6_writeDifference 50 = .ok (.aload_n 3, 1) := by decide +kernel
theorem dX6_writeDifference_51 : decode cX6_writeDifference 51 = .ok (.aload_n 0, 1) := by decide +kernel
theorem dX6_writeDifference_52 : decode cX6_writeDifference 52 = .ok (.getfield 9, 3) := by decide +kernel
theorem dX6_writeDifference_55 : decode cX6_writeDifference 55 = .ok (.iload 5, 2) := by decide +kernel
theorem dX6_writeDifference_57 : decode cX6_writeDifference 57 = .ok (.invokevirtual 67, 3) := by decide +kernel
theorem dX6_writeDifference_60 : decode cX6_writeDifference 60 = .ok (.i2l, 1) := by decide +kernel
theorem dX6_writeDifference_61 : decode cX6_writeDifference 61 = .ok (.invokevirtual 119, 3) := by decide +kernel
theorem dX6_writeDifference_64 : decode cX6_writeDifference 64 = .ok (.iinc 4 1, 3) := by decide +kernel
theorem dX6_writeDifference_67 : decode cX6_writeDifference 67 = .ok (.goto (-58), 3) := by decide +kernel
theorem dX6_writeDifference_70 : decode cX6_writeDifference 70 = .ok (.aload_n 3, 1) := by decide +kernel
theorem dX6_writeDifference_71 : decode cX6_writeDifference 71 = .ok (.invokevirtual 123, 3) := by decide +kernel
theorem dX6_writeDifference_74 : decode cX6_writeDifference 74 = .ok (.ireturn, 1) := by decide +kernel
