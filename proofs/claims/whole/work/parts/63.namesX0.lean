theorem dX0_init_0 : decode cX0_init 0 = .ok (.aload_n 0, 1) := by decide +kernel
theorem dX0_init_1 : decode cX0_init 1 = .ok (.invokespecial 3, 3) := by decide +kernel
theorem dX0_init_4 : decode cX0_init 4 = .ok (.aload_n 0, 1) := by decide +kernel
theorem dX0_init_5 : decode cX0_init 5 = .ok (.aload_n 1, 1) := by decide +kernel
theorem dX0_init_6 : decode cX0_init 6 = .ok (.putfield 9, 3) := by decide +kernel
theorem dX0_init_9 : decode cX0_init 9 = .ok (.return_, 1) := by decide +kernel
set_option maxRecDepth 20000 in
theorem ggX0_addFiles_X4_now : GoodIn wsX0_addFiles wsX4_now := goodIn_r _ [7, 8, 21, 22, 23, 24, 25, 26, 27, 28, 29, 30, 31] (by decide +kernel) (by decide +kernel)
set_option maxRecDepth 20000 in
theorem gX0_addFiles_X4_now : GoodIn wsX0_addFiles (wsV RX0 16 RX4 yX4_now wsX4_now) := goodIn_app (goodIn_of _ (by decide +kernel)) ggX0_addFiles_X4_now
set_option maxRecDepth 20000 in
theorem ggX0_addFiles_X4_newThing : GoodIn wsX0_addFiles wsX4_newThing := goodIn_r _ [12, 13, 14, 21, 22, 23, 24, 25, 26, 27, 28, 29, 30, 31] (by decide +kernel) (by decide +kernel)
set_option maxRecDepth 20000 in
theorem gX0_addFiles_X4_newThing : GoodIn wsX0_addFiles (wsV RX0 22 RX4 yX4_newThing wsX4_newThing) := goodIn_app (goodIn_of _ (by decide +kernel)) ggX0_addFiles_X4_newThing
set_option maxRecDepth 20000 in
theorem ggX0_addFiles_X4_setQuota : GoodIn wsX0_addFiles wsX4_setQuota := goodIn_r _ [18, 19, 21, 22, 23, 24, 25, 26, 27, 28, 29, 30, 31] (by decide +kernel) (by decide +kernel)
set_option maxRecDepth 20000 in
theorem gX0_addFiles_X4_setQuota : GoodIn wsX0_addFiles (wsV RX0 26 RX4 yX4_setQuota wsX4_setQuota) := goodIn_app (goodIn_of _ (by decide +kernel)) ggX0_addFiles_X4_setQuota
theorem dX0_addFiles_0 : decode cX0_addFiles 0 = .ok (.iload_n 1, 1) := by decide +kernel
theorem dX0_addFiles_1 : decode cX0_addFiles 1 = .ok (.iconst (-1), 1) := by decide +kernel
theorem dX0_addFiles_2 : decode cX0_addFiles 2 = .ok (.if_icmp .lt 9, 3) := by decide +kernel
theorem dX0_addFiles_5 : decode cX0_addFiles 5 = .ok (.iload_n 1, 1) := by decide +kernel
theorem dX0_addFiles_6 : decode cX0_addFiles 6 = .ok (.ldc 15, 2) := by decide +kernel
theorem dX0_addFiles_8 : decode cX0_addFiles 8 = .ok (.if_icmp .le 6, 3) := by decide +kernel
theorem dX0_addFiles_11 : decode cX0_addFiles 11 = .ok (.bipush (-2), 2) := by decide +kernel
theorem dX0_addFiles_13 : decode cX0_addFiles 13 = .ok (.ireturn, 1) := by decide +kernel
theorem dX0_addFiles_14 : decode cX0_addFiles 14 = .ok (.aload_n 0, 1) := by decide +kernel
theorem dX0_addFiles_15 : decode cX0_addFiles 15 = .ok (.getfield 9, 3) := by decide +kernel
theorem dX0_addFiles_18 : decode cX0_addFiles 18 = .ok (.iload_n 1, 1) := by decide +kernel
theorem dX0_addFiles_19 : decode cX0_addFiles 19 = .ok (.iconst (-1), 1) := by decide +kernel
theorem dX0_addFiles_20 : decode cX0_addFiles 20 = .ok (.if_icmp .ne 7, 3) := by decide +kernel
theorem dX0_addFiles_23 : decode cX0_addFiles 23 = .ok (.iconst 0, 1) := by decide +kernel
theorem dX0_addFiles_24 : decode cX0_addFiles 24 = .ok (.goto 4, 3) := by decide +kernel
theorem dX0_addFiles_27 : decode cX0_addFiles 27 = .ok (.iconst 1, 1) := by decide +kernel
theorem dX0_addFiles_28 : decode cX0_addFiles 28 = .ok (.aload_n 0, 1) := by decide +kernel
theorem dX0_addFiles_29 : decode cX0_addFiles 29 = .ok (.getfield 9, 3) := by decide +kernel
theorem dX0_addFiles_32 : decode cX0_addFiles 32 = .ok (.invokevirtual 16, 3) := by decide +kernel
theorem dX0_addFiles_35 : decode cX0_addFiles 35 = .ok (.invokevirtual 22, 3) := by decide +kernel
theorem dX0_addFiles_38 : decode cX0_addFiles 38 = .ok (.istore_n 2, 1) := by decide +kernel
theorem dX0_addFiles_39 : decode cX0_addFiles 39 = .ok (.iload_n 2, 1) := by decide +kernel
theorem dX0_addFiles_40 : decode cX0_addFiles 40 = .ok (.bipush (-4), 2) := by decide +kernel
theorem dX0_addFiles_42 : decode cX0_addFiles 42 = .ok (.if_icmp .eq 12, 3) := by decide +kernel
theorem dX0_addFiles_45 : decode cX0_addFiles 45 = .ok (.aload_n 0, 1) := by decide +kernel
theorem dX0_addFiles_46 : decode cX0_addFiles 46 = .ok (.getfield 9, 3) := by decide +kernel
theorem dX0_addFiles_49 : decode cX0_addFiles 49 = .ok (.iload_n 2, 1) := by decide +kernel
theorem dX0_addFiles_50 : decode cX0_addFiles 50 = .ok (.iload_n 1, 1) := by decide +kernel
theorem dX0_addFiles_51 : decode cX0_addFiles 51 = .ok (.invokevirtual 26, 3) := by decide +kernel
theorem dX0_addFiles_54 : decode cX0_addFiles 54 = .ok (.iload_n 2, 1) := by decide +kernel
theorem dX0_addFiles_55 : decode cX0_addFiles 55 = .ok (.ireturn, 1) := by decide +kernel
set_option maxRecDepth 20000 in
theorem ggX0_writeSlot_X4_refusalAs : GoodIn wsX0_writeSlot wsX4_refusalAs := goodIn_r _ [7, 8, 9, 10, 6, 11, 12, 13, 14, 15, 16, 77, 78, 79, 80, 81, 82, 83, 84, 85, 86, 87] (by decide +kernel) (by decide +kernel)
set_option maxRecDepth 20000 in
theorem gX0_writeSlot_X4_refusalAs : GoodIn wsX0_writeSlot (wsV RX0 30 RX4 yX4_refusalAs wsX4_refusalAs) := goodIn_app (goodIn_of _ (by decide +kernel)) ggX0_writeSlot_X4_refusalAs
set_option maxRecDepth 20000 in
theorem ggX0_writeSlot_X0_fillSlot : GoodIn wsX0_writeSlot wsX0_fillSlot := goodIn_r _ [21, 2, 22, 23, 24, 6, 25, 26, 27, 28, 29, 30, 31, 32, 33, 34, 35, 36, 37, 38, 39, 40, 41, 42, 43, 44, 45, 46, 47, 48, 49, 50, 51, 20, 52, 53, 54, 55, 56, 57, 58, 59, 60, 61, 62, 63, 64, 65, 66, 67, 68, 69, 70, 71, 72, 73, 74, 75, 76, 77, 78, 79, 80, 81, 82, 83, 84, 85, 86, 87] (by decide +kernel) (by decide +kernel)
set_option maxRecDepth 20000 in
theorem gX0_writeSlot_X0_fillSlot : GoodIn wsX0_writeSlot (wsV RX0 33 RX0 yX0_fillSlot wsX0_fillSlot) := goodIn_app (goodIn_of _ (by decide +kernel)) ggX0_writeSlot_X0_fillSlot
theorem dX0_writeSlot_0 : decode cX0_writeSlot 0 = .ok (.iload_n 2, 1) := by decide +kernel
theorem dX0_writeSlot_1 : decode cX0_writeSlot 1 = .ok (.ifCond .lt 20, 3) := by decide +kernel
theorem dX0_writeSlot_4 : decode cX0_writeSlot 4 = .ok (.iload_n 2, 1) := by decide +kernel
theorem dX0_writeSlot_5 : decode cX0_writeSlot 5 = .ok (.bipush 12, 2) := by decide +kernel
theorem dX0_writeSlot_7 : decode cX0_writeSlot 7 = .ok (.if_icmp .ge 14, 3) := by decide +kernel
theorem dX0_writeSlot_10 : decode cX0_writeSlot 10 = .ok (.iload_n 3, 1) := by decide +kernel
theorem dX0_writeSlot_11 : decode cX0_writeSlot 11 = .ok (.iconst 1, 1) := by decide +kernel
theorem dX0_writeSlot_12 : decode cX0_writeSlot 12 = .ok (.if_icmp .lt 9, 3) := by decide +kernel
theorem dX0_writeSlot_15 : decode cX0_writeSlot 15 = .ok (.iload_n 3, 1) := by decide +kernel
theorem dX0_writeSlot_16 : decode cX0_writeSlot 16 = .ok (.ldc 15, 2) := by decide +kernel
theorem dX0_writeSlot_18 : decode cX0_writeSlot 18 = .ok (.if_icmp .le 6, 3) := by decide +kernel
theorem dX0_writeSlot_21 : decode cX0_writeSlot 21 = .ok (.bipush (-2), 2) := by decide +kernel
theorem dX0_writeSlot_23 : decode cX0_writeSlot 23 = .ok (.ireturn, 1) := by decide +kernel
theorem dX0_writeSlot_24 : decode cX0_writeSlot 24 = .ok (.aload_n 0, 1) := by decide +kernel
theorem dX0_writeSlot_25 : decode cX0_writeSlot 25 = .ok (.getfield 9, 3) := by decide +kernel
theorem dX0_writeSlot_28 : decode cX0_writeSlot 28 = .ok (.iload_n 1, 1) := by decide +kernel
theorem dX0_writeSlot_29 : decode cX0_writeSlot 29 = .ok (.iconst 0, 1) := by decide +kernel
theorem dX0_writeSlot_30 : decode cX0_writeSlot 30 = .ok (.invokevirtual 30, 3) := by decide +kernel
theorem dX0_writeSlot_33 : decode cX0_writeSlot 33 = .ok (.istore 4, 2) := by decide +kernel
theorem dX0_writeSlot_35 : decode cX0_writeSlot 35 = .ok (.iload 4, 2) := by decide +kernel
theorem dX0_writeSlot_37 : decode cX0_writeSlot 37 = .ok (.ifCond .eq 8, 3) := by decide +kernel
theorem dX0_writeSlot_40 : decode cX0_writeSlot 40 = .ok (.iload 4, 2) := by decide +kernel
theorem dX0_writeSlot_42 : decode cX0_writeSlot 42 = .ok (.goto 10, 3) := by decide +kernel
theorem dX0_writeSlot_45 : decode cX0_writeSlot 45 = .ok (.aload_n 0, 1) := by decide +kernel
theorem dX0_writeSlot_46 : decode cX0_writeSlot 46 = .ok (.iload_n 1, 1) := by decide +kernel
theorem dX0_writeSlot_47 : decode cX0_writeSlot 47 = .ok (.iload_n 2, 1) := by decide +kernel
theorem dX0_writeSlot_48 : decode cX0_writeSlot 48 = .ok (.iload_n 3, 1) := by decide +kernel
theorem dX0_writeSlot_49 : decode cX0_writeSlot 49 = .ok (.invokevirtual 33, 3) := by decide +kernel
theorem dX0_writeSlot_52 : decode cX0_writeSlot 52 = .ok (.ireturn, 1) := by decide +kernel
set_option maxRecDepth 20000 in
theorem ggX0_eraseSlot_X4_refusalAs : GoodIn wsX0_eraseSlot wsX4_refusalAs := goodIn_r _ [6, 7, 8, 9, 5, 10, 11, 12, 13, 14, 15, 52, 53, 54, 55, 56, 57, 58, 59, 60, 61, 62] (by decide +kernel) (by decide +kernel)
set_option maxRecDepth 20000 in
theorem gX0_eraseSlot_X4_refusalAs : GoodIn wsX0_eraseSlot (wsV RX0 30 RX4 yX4_refusalAs wsX4_refusalAs) := goodIn_app (goodIn_of _ (by decide +kernel)) ggX0_eraseSlot_X4_refusalAs
set_option maxRecDepth 20000 in
theorem ggX0_eraseSlot_X4_blockIn : GoodIn wsX0_eraseSlot wsX4_blockIn := goodIn_r _ [19, 20, 52, 53, 54, 55, 56, 57, 58, 59, 60, 61, 62] (by decide +kernel) (by decide +kernel)
set_option maxRecDepth 20000 in
theorem gX0_eraseSlot_X4_blockIn : GoodIn wsX0_eraseSlot (wsV RX0 37 RX4 yX4_blockIn wsX4_blockIn) := goodIn_app (goodIn_of _ (by decide +kernel)) ggX0_eraseSlot_X4_blockIn
set_option maxRecDepth 20000 in
theorem ggX0_eraseSlot_X0_emptySlot : GoodIn wsX0_eraseSlot wsX0_emptySlot := goodIn_r _ [25, 1, 16, 17, 18, 5, 19, 20, 26, 27, 28, 29, 30, 31, 32, 33, 34, 35, 36, 37, 38, 39, 40, 41, 42, 43, 44, 45, 46, 47, 48, 49, 50, 51, 52, 53, 54, 55, 56, 57, 58, 59, 60, 61, 62] (by decide +kernel) (by decide +kernel)
set_option maxRecDepth 20000 in
theorem gX0_eraseSlot_X0_emptySlot : GoodIn wsX0_eraseSlot (wsV RX0 40 RX0 yX0_emptySlot wsX0_emptySlot) := goodIn_app (goodIn_of _ (by decide +kernel)) ggX0_eraseSlot_X0_emptySlot
theorem dX0_eraseSlot_0 : decode cX0_eraseSlot 0 = .ok (.iload_n 2, 1) := by decide +kernel
theorem dX0_eraseSlot_1 : decode cX0_eraseSlot 1 = .ok (.ifCond .lt 9, 3) := by decide +kernel
theorem dX0_eraseSlot_4 : decode cX0_eraseSlot 4 = .ok (.iload_n 2, 1) := by decide +kernel
theorem dX0_eraseSlot_5 : decode cX0_eraseSlot 5 = .ok (.bipush 12, 2) := by decide +kernel
theorem dX0_eraseSlot_7 : decode cX0_eraseSlot 7 = .ok (.if_icmp .lt 6, 3) := by decide +kernel
theorem dX0_eraseSlot_10 : decode cX0_eraseSlot 10 = .ok (.bipush (-2), 2) := by decide +kernel
theorem dX0_eraseSlot_12 : decode cX0_eraseSlot 12 = .ok (.ireturn, 1) := by decide +kernel
theorem dX0_eraseSlot_13 : decode cX0_eraseSlot 13 = .ok (.aload_n 0, 1) := by decide +kernel
theorem dX0_eraseSlot_14 : decode cX0_eraseSlot 14 = .ok (.getfield 9, 3) := by decide +kernel
theorem dX0_eraseSlot_17 : decode cX0_eraseSlot 17 = .ok (.iload_n 1, 1) := by decide +kernel
theorem dX0_eraseSlot_18 : decode cX0_eraseSlot 18 = .ok (.iconst 0, 1) := by decide +kernel
theorem dX0_eraseSlot_19 : decode cX0_eraseSlot 19 = .ok (.invokevirtual 30, 3) := by decide +kernel
theorem dX0_eraseSlot_22 : decode cX0_eraseSlot 22 = .ok (.istore_n 3, 1) := by decide +kernel
theorem dX0_eraseSlot_23 : decode cX0_eraseSlot 23 = .ok (.iload_n 3, 1) := by decide +kernel
theorem dX0_eraseSlot_24 : decode cX0_eraseSlot 24 = .ok (.ifCond .eq 5, 3) := by decide +kernel
theorem dX0_eraseSlot_27 : decode cX0_eraseSlot 27 = .ok (.iload_n 3, 1) := by decide +kernel
theorem dX0_eraseSlot_28 : decode cX0_eraseSlot 28 = .ok (.ireturn, 1) := by decide +kernel
theorem dX0_eraseSlot_29 : decode cX0_eraseSlot 29 = .ok (.aload_n 0, 1) := by decide +kernel
theorem dX0_eraseSlot_30 : decode cX0_eraseSlot 30 = .ok (.getfield 9, 3) := by decide +kernel
theorem dX0_eraseSlot_33 : decode cX0_eraseSlot 33 = .ok (.iload_n 1, 1) := by decide +kernel
theorem dX0_eraseSlot_34 : decode cX0_eraseSlot 34 = .ok (.iload_n 2, 1) := by decide +kernel
theorem dX0_eraseSlot_35 : decode cX0_eraseSlot 35 = .ok (.invokevirtual 37, 3) := by decide +kernel
theorem dX0_eraseSlot_38 : decode cX0_eraseSlot 38 = .ok (.istore 4, 2) := by decide +kernel
theorem dX0_eraseSlot_40 : decode cX0_eraseSlot 40 = .ok (.aload_n 0, 1) := by decide +kernel
theorem dX0_eraseSlot_41 : decode cX0_eraseSlot 41 = .ok (.iload_n 1, 1) := by decide +kernel
theorem dX0_eraseSlot_42 : decode cX0_eraseSlot 42 = .ok (.iload_n 2, 1) := by decide +kernel
theorem dX0_eraseSlot_43 : decode cX0_eraseSlot 43 = .ok (.invokevirtual 40, 3) := by decide +kernel
theorem dX0_eraseSlot_46 : decode cX0_eraseSlot 46 = .ok (.pop, 1) := by decide +kernel
theorem dX0_eraseSlot_47 : decode cX0_eraseSlot 47 = .ok (.iload 4, 2) := by decide +kernel
theorem dX0_eraseSlot_49 : decode cX0_eraseSlot 49 = .ok (.ireturn, 1) := by decide +kernel
set_option maxRecDepth 20000 in
theorem ggX0_addSnapshot_X4_refusalAs : GoodIn wsX0_addSnapshot wsX4_refusalAs := goodIn_r _ [6, 7, 8, 9, 5, 10, 11, 12, 13, 14, 15, 63, 64, 65, 66, 67, 68, 69, 70, 71, 72, 73] (by decide +kernel) (by decide +kernel)
set_option maxRecDepth 20000 in
theorem gX0_addSnapshot_X4_refusalAs : GoodIn wsX0_addSnapshot (wsV RX0 30 RX4 yX4_refusalAs wsX4_refusalAs) := goodIn_app (goodIn_of _ (by decide +kernel)) ggX0_addSnapshot_X4_refusalAs
set_option maxRecDepth 20000 in
theorem ggX0_addSnapshot_X4_now : GoodIn wsX0_addSnapshot wsX4_now := goodIn_r _ [19, 20, 63, 64, 65, 66, 67, 68, 69, 70, 71, 72, 73] (by decide +kernel) (by decide +kernel)
set_option maxRecDepth 20000 in
theorem gX0_addSnapshot_X4_now : GoodIn wsX0_addSnapshot (wsV RX0 16 RX4 yX4_now wsX4_now) := goodIn_app (goodIn_of _ (by decide +kernel)) ggX0_addSnapshot_X4_now
set_option maxRecDepth 20000 in
theorem ggX0_addSnapshot_X4_newThing : GoodIn wsX0_addSnapshot wsX4_newThing := goodIn_r _ [24, 11, 25, 63, 64, 65, 66, 67, 68, 69, 70, 71, 72, 73] (by decide +kernel) (by decide +kernel)
set_option maxRecDepth 20000 in
theorem gX0_addSnapshot_X4_newThing : GoodIn wsX0_addSnapshot (wsV RX0 22 RX4 yX4_newThing wsX4_newThing) := goodIn_app (goodIn_of _ (by decide +kernel)) ggX0_addSnapshot_X4_newThing
set_option maxRecDepth 20000 in
theorem ggX0_addSnapshot_X4_copySlots : GoodIn wsX0_addSnapshot wsX4_copySlots := goodIn_r _ [29, 30, 31, 32, 5, 33, 34, 35, 36, 37, 38, 63, 64, 65, 66, 67, 68, 69, 70, 71, 72, 73] (by decide +kernel) (by decide +kernel)
set_option maxRecDepth 20000 in
theorem gX0_addSnapshot_X4_copySlots : GoodIn wsX0_addSnapshot (wsV RX0 43 RX4 yX4_copySlots wsX4_copySlots) := goodIn_app (goodIn_of _ (by decide +kernel)) ggX0_addSnapshot_X4_copySlots
set_option maxRecDepth 20000 in
theorem ggX0_addSnapshot_X4_prevOf : GoodIn wsX0_addSnapshot wsX4_prevOf := goodIn_r _ [42, 43, 63, 64, 65, 66, 67, 68, 69, 70, 71, 72, 73] (by decide +kernel) (by decide +kernel)
set_option maxRecDepth 20000 in
theorem gX0_addSnapshot_X4_prevOf : GoodIn wsX0_addSnapshot (wsV RX0 46 RX4 yX4_prevOf wsX4_prevOf) := goodIn_app (goodIn_of _ (by decide +kernel)) ggX0_addSnapshot_X4_prevOf
set_option maxRecDepth 20000 in
theorem ggX0_addSnapshot_X4_setPrev : GoodIn wsX0_addSnapshot wsX4_setPrev := goodIn_r _ [47, 43, 63, 64, 65, 66, 67, 68, 69, 70, 71, 72, 73] (by decide +kernel) (by decide +kernel)
set_option maxRecDepth 20000 in
theorem gX0_addSnapshot_X4_setPrev : GoodIn wsX0_addSnapshot (wsV RX0 50 RX4 yX4_setPrev wsX4_setPrev) := goodIn_app (goodIn_of _ (by decide +kernel)) ggX0_addSnapshot_X4_setPrev
set_option maxRecDepth 20000 in
theorem ggX0_addSnapshot_X4_setOwner : GoodIn wsX0_addSnapshot wsX4_setOwner := goodIn_r _ [51, 52, 63, 64, 65, 66, 67, 68, 69, 70, 71, 72, 73] (by decide +kernel) (by decide +kernel)
set_option maxRecDepth 20000 in
theorem gX0_addSnapshot_X4_setOwner : GoodIn wsX0_addSnapshot (wsV RX0 53 RX4 yX4_setOwner wsX4_setOwner) := goodIn_app (goodIn_of _ (by decide +kernel)) ggX0_addSnapshot_X4_setOwner
set_option maxRecDepth 20000 in
theorem ggX0_addSnapshot_X4_setTags : GoodIn wsX0_addSnapshot wsX4_setTags := goodIn_r _ [56, 57, 63, 64, 65, 66, 67, 68, 69, 70, 71, 72, 73] (by decide +kernel) (by decide +kernel)
set_option maxRecDepth 20000 in
theorem gX0_addSnapshot_X4_setTags : GoodIn wsX0_addSnapshot (wsV RX0 56 RX4 yX4_setTags wsX4_setTags) := goodIn_app (goodIn_of _ (by decide +kernel)) ggX0_addSnapshot_X4_setTags
set_option maxRecDepth 20000 in
theorem ggX0_addSnapshot_X4_setTime : GoodIn wsX0_addSnapshot wsX4_setTime := goodIn_r _ [61, 20, 63, 64, 65, 66, 67, 68, 69, 70, 71, 72, 73] (by decide +kernel) (by decide +kernel)
set_option maxRecDepth 20000 in
theorem gX0_addSnapshot_X4_setTime : GoodIn wsX0_addSnapshot (wsV RX0 59 RX4 yX4_setTime wsX4_setTime) := goodIn_app (goodIn_of _ (by decide +kernel)) ggX0_addSnapshot_X4_setTime
theorem dX0_addSnapshot_0 : decode cX0_addSnapshot 0 = .ok (.iload_n 2, 1) := by decide +kernel
theorem dX0_addSnapshot_1 : decode cX0_addSnapshot 1 = .ok (.ifCond .lt 8, 3) := by decide +kernel
theorem dX0_addSnapshot_4 : decode cX0_addSnapshot 4 = .ok (.iload_n 2, 1) := by decide +kernel
theorem dX0_addSnapshot_5 : decode cX0_addSnapshot 5 = .ok (.iconst 1, 1) := by decide +kernel
theorem dX0_addSnapshot_6 : decode cX0_addSnapshot 6 = .ok (.if_icmp .le 6, 3) := by decide +kernel
theorem dX0_addSnapshot_9 : decode cX0_addSnapshot 9 = .ok (.bipush (-2), 2) := by decide +kernel
theorem dX0_addSnapshot_11 : decode cX0_addSnapshot 11 = .ok (.ireturn, 1) := by decide +kernel
theorem dX0_addSnapshot_12 : decode cX0_addSnapshot 12 = .ok (.aload_n 0, 1) := by decide +kernel
theorem dX0_addSnapshot_13 : decode cX0_addSnapshot 13 = .ok (.getfield 9, 3) := by decide +kernel
theorem dX0_addSnapshot_16 : decode cX0_addSnapshot 16 = .ok (.iload_n 1, 1) := by decide +kernel
theorem dX0_addSnapshot_17 : decode cX0_addSnapshot 17 = .ok (.iconst 0, 1) := by decide +kernel
theorem dX0_addSnapshot_18 : decode cX0_addSnapshot 18 = .ok (.invokevirtual 30, 3) := by decide +kernel
theorem dX0_addSnapshot_21 : decode cX0_addSnapshot 21 = .ok (.istore_n 3, 1) := by decide +kernel
theorem dX0_addSnapshot_22 : decode cX0_addSnapshot 22 = .ok (.iload_n 3, 1) := by decide +kernel
theorem dX0_addSnapshot_23 : decode cX0_addSnapshot 23 = .ok (.ifCond .eq 5, 3) := by decide +kernel
theorem dX0_addSnapshot_26 : decode cX0_addSnapshot 26 = .ok (.iload_n 3, 1) := by decide +kernel
theorem dX0_addSnapshot_27 : decode cX0_addSnapshot 27 = .ok (.ireturn, 1) := by decide +kernel
theorem dX0_addSnapshot_28 : decode cX0_addSnapshot 28 = .ok (.aload_n 0, 1) := by decide +kernel
theorem dX0_addSnapshot_29 : decode cX0_addSnapshot 29 = .ok (.getfield 9, 3) := by decide +kernel
theorem dX0_addSnapshot_32 : decode cX0_addSnapshot 32 = .ok (.iload_n 2, 1) := by decide +kernel
theorem dX0_addSnapshot_33 : decode cX0_addSnapshot 33 = .ok (.iconst 1, 1) := by decide +kernel
theorem dX0_addSnapshot_34 : decode cX0_addSnapshot 34 = .ok (.if_icmp .ne 7, 3) := by decide +kernel
theorem dX0_addSnapshot_37 : decode cX0_addSnapshot 37 = .ok (.iconst 3, 1) := by decide +kernel
theorem dX0_addSnapshot_38 : decode cX0_addSnapshot 38 = .ok (.goto 4, 3) := by decide +kernel
theorem dX0_addSnapshot_41 : decode cX0_addSnapshot 41 = .ok (.iconst 2, 1) := by decide +kernel
theorem dX0_addSnapshot_42 : decode cX0_addSnapshot 42 = .ok (.aload_n 0, 1) := by decide +kernel
theorem dX0_addSnapshot_43 : decode cX0_addSnapshot 43 = .ok (.getfield 9, 3) := by decide +kernel
theorem dX0_addSnapshot_46 : decode cX0_addSnapshot 46 = .ok (.invokevirtual 16, 3) := by decide +kernel
theorem dX0_addSnapshot_49 : decode cX0_addSnapshot 49 = .ok (.invokevirtual 22, 3) := by decide +kernel
theorem dX0_addSnapshot_52 : decode cX0_addSnapshot 52 = .ok (.istore 4, 2) := by decide +kernel
theorem dX0_addSnapshot_54 : decode cX0_addSnapshot 54 = .ok (.iload 4, 2) := by decide +kernel
theorem dX0_addSnapshot_56 : decode cX0_addSnapshot 56 = .ok (.bipush (-4), 2) := by decide +kernel
theorem dX0_addSnapshot_58 : decode cX0_addSnapshot 58 = .ok (.if_icmp .ne 6, 3) := by decide +kernel
theorem dX0_addSnapshot_61 : decode cX0_addSnapshot 61 = .ok (.bipush (-4), 2) := by decide +kernel
theorem dX0_addSnapshot_63 : decode cX0_addSnapshot 63 = .ok (.ireturn, 1) := by decide +kernel
theorem dX0_addSnapshot_64 : decode cX0_addSnapshot 64 = .ok (.aload_n 0, 1) := by decide +kernel
theorem dX0_addSnapshot_65 : decode cX0_addSnapshot 65 = .ok (.getfield 9, 3) := by decide +kernel
theorem dX0_addSnapshot_68 : decode cX0_addSnapshot 68 = .ok (.iload_n 1, 1) := by decide +kernel
theorem dX0_addSnapshot_69 : decode cX0_addSnapshot 69 = .ok (.iload 4, 2) := by decide +kernel
theorem dX0_addSnapshot_71 : decode cX0_addSnapshot 71 = .ok (.invokevirtual 43, 3) := by decide +kernel
theorem dX0_addSnapshot_74 : decode cX0_addSnapshot 74 = .ok (.aload_n 0, 1) := by decide +kernel
theorem dX0_addSnapshot_75 : decode cX0_addSnapshot 75 = .ok (.getfield 9, 3) := by decide +kernel
theorem dX0_addSnapshot_78 : decode cX0_addSnapshot 78 = .ok (.iload 4, 2) := by decide +kernel
theorem dX0_addSnapshot_80 : decode cX0_addSnapshot 80 = .ok (.aload_n 0, 1) := by decide +kernel
theorem dX0_addSnapshot_81 : decode cX0_addSnapshot 81 = .ok (.getfield 9, 3) := by decide +kernel
theorem dX0_addSnapshot_84 : decode cX0_addSnapshot 84 = .ok (.iload_n 1, 1) := by decide +kernel
theorem dX0_addSnapshot_85 : decode cX0_addSnapshot 85 = .ok (.invokevirtual 46, 3) := by decide +kernel
theorem dX0_addSnapshot_88 : decode cX0_addSnapshot 88 = .ok (.invokevirtual 50, 3) := by decide +kernel
theorem dX0_addSnapshot_91 : decode cX0_addSnapshot 91 = .ok (.aload_n 0, 1) := by decide +kernel
theorem dX0_addSnapshot_92 : decode cX0_addSnapshot 92 = .ok (.getfield 9, 3) := by decide +kernel
theorem dX0_addSnapshot_95 : decode cX0_addSnapshot 95 = .ok (.iload 4, 2) := by decide +kernel
theorem dX0_addSnapshot_97 : decode cX0_addSnapshot 97 = .ok (.iload_n 1, 1) := by decide +kernel
theorem dX0_addSnapshot_98 : decode cX0_addSnapshot 98 = .ok (.invokevirtual 53, 3) := by decide +kernel
theorem dX0_addSnapshot_101 : decode cX0_addSnapshot 101 = .ok (.aload_n 0, 1) := by decide +kernel
theorem dX0_addSnapshot_102 : decode cX0_addSnapshot 102 = .ok (.getfield 9, 3) := by decide +kernel
theorem dX0_addSnapshot_105 : decode cX0_addSnapshot 105 = .ok (.iload 4, 2) := by decide +kernel
theorem dX0_addSnapshot_107 : decode cX0_addSnapshot 107 = .ok (.iload_n 2, 1) := by decide +kernel
theorem dX0_addSnapshot_108 : decode cX0_addSnapshot 108 = .ok (.invokevirtual 56, 3) := by decide +kernel
theorem dX0_addSnapshot_111 : decode cX0_addSnapshot 111 = .ok (.aload_n 0, 1) := by decide +kernel
theorem dX0_addSnapshot_112 : decode cX0_addSnapshot 112 = .ok (.getfield 9, 3) := by decide +kernel
theorem dX0_addSnapshot_115 : decode cX0_addSnapshot 115 = .ok (.iload_n 1, 1) := by decide +kernel
theorem dX0_addSnapshot_116 : decode cX0_addSnapshot 116 = .ok (.iload 4, 2) := by decide +kernel
theorem dX0_addSnapshot_118 : decode cX0_addSnapshot 118 = .ok (.invokevirtual 50, 3) := by decide +kernel
theorem dX0_addSnapshot_121 : decode cX0_addSnapshot 121 = .ok (.aload_n 0, 1) := by decide +kernel
theorem dX0_addSnapshot_122 : decode cX0_addSnapshot 122 = .ok (.getfield 9, 3) := by decide +kernel
theorem dX0_addSnapshot_125 : decode cX0_addSnapshot 125 = .ok (.aload_n 0, 1) := by decide +kernel
theorem dX0_addSnapshot_126 : decode cX0_addSnapshot 126 = .ok (.getfield 9, 3) := by decide +kernel
theorem dX0_addSnapshot_129 : decode cX0_addSnapshot 129 = .ok (.invokevirtual 16, 3) := by decide +kernel
theorem dX0_addSnapshot_132 : decode cX0_addSnapshot 132 = .ok (.iconst 1, 1) := by decide +kernel
theorem dX0_addSnapshot_133 : decode cX0_addSnapshot 133 = .ok (.iadd, 1) := by decide +kernel
theorem dX0_addSnapshot_134 : decode cX0_addSnapshot 134 = .ok (.invokevirtual 59, 3) := by decide +kernel
theorem dX0_addSnapshot_137 : decode cX0_addSnapshot 137 = .ok (.iload 4, 2) := by decide +kernel
theorem dX0_addSnapshot_139 : decode cX0_addSnapshot 139 = .ok (.ireturn, 1) := by decide +kernel
set_option maxRecDepth 20000 in
theorem ggX0_changeTags_X4_refusalAs : GoodIn wsX0_changeTags wsX4_refusalAs := goodIn_r _ [6, 7, 8, 9, 5, 10, 11, 12, 13, 14, 15, 26, 27, 28, 29, 30, 31, 32, 33, 34, 35, 36] (by decide +kernel) (by decide +kernel)
set_option maxRecDepth 20000 in
theorem gX0_changeTags_X4_refusalAs : GoodIn wsX0_changeTags (wsV RX0 30 RX4 yX4_refusalAs wsX4_refusalAs) := goodIn_app (goodIn_of _ (by decide +kernel)) ggX0_changeTags_X4_refusalAs
set_option maxRecDepth 20000 in
theorem ggX0_changeTags_X4_tagsOf : GoodIn wsX0_changeTags wsX4_tagsOf := goodIn_r _ [19, 20, 26, 27, 28, 29, 30, 31, 32, 33, 34, 35, 36] (by decide +kernel) (by decide +kernel)
set_option maxRecDepth 20000 in
theorem gX0_changeTags_X4_tagsOf : GoodIn wsX0_changeTags (wsV RX0 63 RX4 yX4_tagsOf wsX4_tagsOf) := goodIn_app (goodIn_of _ (by decide +kernel)) ggX0_changeTags_X4_tagsOf
set_option maxRecDepth 20000 in
theorem ggX0_changeTags_X4_setTags : GoodIn wsX0_changeTags wsX4_setTags := goodIn_r _ [24, 20, 26, 27, 28, 29, 30, 31, 32, 33, 34, 35, 36] (by decide +kernel) (by decide +kernel)
set_option maxRecDepth 20000 in
theorem gX0_changeTags_X4_setTags : GoodIn wsX0_changeTags (wsV RX0 56 RX4 yX4_setTags wsX4_setTags) := goodIn_app (goodIn_of _ (by decide +kernel)) ggX0_changeTags_X4_setTags
theorem dX0_changeTags_0 : decode cX0_changeTags 0 = .ok (.iload_n 2, 1) := by decide +kernel
theorem dX0_changeTags_1 : decode cX0_changeTags 1 = .ok (.ifCond .lt 9, 3) := by decide +kernel
theorem dX0_changeTags_4 : decode cX0_changeTags 4 = .ok (.iload_n 2, 1) := by decide +kernel
theorem dX0_changeTags_5 : decode cX0_changeTags 5 = .ok (.bipush 9, 2) := by decide +kernel
theorem dX0_changeTags_7 : decode cX0_changeTags 7 = .ok (.if_icmp .le 6, 3) := by decide +kernel
theorem dX0_changeTags_10 : decode cX0_changeTags 10 = .ok (.bipush (-2), 2) := by decide +kernel
theorem dX0_changeTags_12 : decode cX0_changeTags 12 = .ok (.ireturn, 1) := by decide +kernel
theorem dX0_changeTags_13 : decode cX0_changeTags 13 = .ok (.aload_n 0, 1) := by decide +kernel
theorem dX0_changeTags_14 : decode cX0_changeTags 14 = .ok (.getfield 9, 3) := by decide +kernel
theorem dX0_changeTags_17 : decode cX0_changeTags 17 = .ok (.iload_n 1, 1) := by decide +kernel
theorem dX0_changeTags_18 : decode cX0_changeTags 18 = .ok (.iconst 3, 1) := by decide +kernel
theorem dX0_changeTags_19 : decode cX0_changeTags 19 = .ok (.invokevirtual 30, 3) := by decide +kernel
theorem dX0_changeTags_22 : decode cX0_changeTags 22 = .ok (.istore_n 3, 1) := by decide +kernel
theorem dX0_changeTags_23 : decode cX0_changeTags 23 = .ok (.iload_n 3, 1) := by decide +kernel
theorem dX0_changeTags_24 : decode cX0_changeTags 24 = .ok (.ifCond .eq 5, 3) := by decide +kernel
theorem dX0_changeTags_27 : decode cX0_changeTags 27 = .ok (.iload_n 3, 1) := by decide +kernel
theorem dX0_changeTags_28 : decode cX0_changeTags 28 = .ok (.ireturn, 1) := by decide +kernel
theorem dX0_changeTags_29 : decode cX0_changeTags 29 = .ok (.aload_n 0, 1) := by decide +kernel
theorem dX0_changeTags_30 : decode cX0_changeTags 30 = .ok (.getfield 9, 3) := by decide +kernel
theorem dX0_changeTags_33 : decode cX0_changeTags 33 = .ok (.iload_n 1, 1) := by decide +kernel
theorem dX0_changeTags_34 : decode cX0_changeTags 34 = .ok (.invokevirtual 63, 3) := by decide +kernel
theorem dX0_changeTags_37 : decode cX0_changeTags 37 = .ok (.istore 4, 2) := by decide +kernel
theorem dX0_changeTags_39 : decode cX0_changeTags 39 = .ok (.aload_n 0, 1) := by decide +kernel
theorem dX0_changeTags_40 : decode cX0_changeTags 40 = .ok (.getfield 9, 3) := by decide +kernel
theorem dX0_changeTags_43 : decode cX0_changeTags 43 = .ok (.iload_n 1, 1) := by decide +kernel
theorem dX0_changeTags_44 : decode cX0_changeTags 44 = .ok (.iload_n 2, 1) := by decide +kernel
theorem dX0_changeTags_45 : decode cX0_changeTags 45 = .ok (.invokevirtual 56, 3) := by decide +kernel
theorem dX0_changeTags_48 : decode cX0_changeTags 48 = .ok (.iload 4, 2) := by decide +kernel
theorem dX0_changeTags_50 : decode cX0_changeTags 50 = .ok (.ireturn, 1) := by decide +kernel
set_option maxRecDepth 20000 in
theorem ggX0_addBookmark_X4_refusalAs : GoodIn wsX0_addBookmark wsX4_refusalAs := goodIn_r _ [6, 7, 8, 9, 5, 10, 11, 12, 13, 14, 15, 26, 27, 28, 29, 30, 31, 32, 33, 34, 35, 36] (by decide +kernel) (by decide +kernel)
set_option maxRecDepth 20000 in
theorem gX0_addBookmark_X4_refusalAs : GoodIn wsX0_addBookmark (wsV RX0 30 RX4 yX4_refusalAs wsX4_refusalAs) := goodIn_app (goodIn_of _ (by decide +kernel)) ggX0_addBookmark_X4_refusalAs
set_option maxRecDepth 20000 in
theorem ggX0_addBookmark_X4_madeOf : GoodIn wsX0_addBookmark wsX4_madeOf := goodIn_r _ [19, 20, 26, 27, 28, 29, 30, 31, 32, 33, 34, 35, 36] (by decide +kernel) (by decide +kernel)
set_option maxRecDepth 20000 in
theorem gX0_addBookmark_X4_madeOf : GoodIn wsX0_addBookmark (wsV RX0 66 RX4 yX4_madeOf wsX4_madeOf) := goodIn_app (goodIn_of _ (by decide +kernel)) ggX0_addBookmark_X4_madeOf
set_option maxRecDepth 20000 in
theorem ggX0_addBookmark_X4_newThing : GoodIn wsX0_addBookmark wsX4_newThing := goodIn_r _ [24, 11, 20, 26, 27, 28, 29, 30, 31, 32, 33, 34, 35, 36] (by decide +kernel) (by decide +kernel)
set_option maxRecDepth 20000 in
theorem gX0_addBookmark_X4_newThing : GoodIn wsX0_addBookmark (wsV RX0 22 RX4 yX4_newThing wsX4_newThing) := goodIn_app (goodIn_of _ (by decide +kernel)) ggX0_addBookmark_X4_newThing
theorem dX0_addBookmark_0 : decode cX0_addBookmark 0 = .ok (.aload_n 0, 1) := by decide +kernel
theorem dX0_addBookmark_1 : decode cX0_addBookmark 1 = .ok (.getfield 9, 3) := by decide +kernel
theorem dX0_addBookmark_4 : decode cX0_addBookmark 4 = .ok (.iload_n 1, 1) := by decide +kernel
theorem dX0_addBookmark_5 : decode cX0_addBookmark 5 = .ok (.iconst 2, 1) := by decide +kernel
theorem dX0_addBookmark_6 : decode cX0_addBookmark 6 = .ok (.invokevirtual 30, 3) := by decide +kernel
theorem dX0_addBookmark_9 : decode cX0_addBookmark 9 = .ok (.istore_n 2, 1) := by decide +kernel
theorem dX0_addBookmark_10 : decode cX0_addBookmark 10 = .ok (.iload_n 2, 1) := by decide +kernel
theorem dX0_addBookmark_11 : decode cX0_addBookmark 11 = .ok (.ifCond .eq 7, 3) := by decide +kernel
theorem dX0_addBookmark_14 : decode cX0_addBookmark 14 = .ok (.iload_n 2, 1) := by decide +kernel
theorem dX0_addBookmark_15 : decode cX0_addBookmark 15 = .ok (.goto 19, 3) := by decide +kernel
theorem dX0_addBookmark_18 : decode cX0_addBookmark 18 = .ok (.aload_n 0, 1) := by decide +kernel
theorem dX0_addBookmark_19 : decode cX0_addBookmark 19 = .ok (.getfield 9, 3) := by decide +kernel
theorem dX0_addBookmark_22 : decode cX0_addBookmark 22 = .ok (.iconst 4, 1) := by decide +kernel
theorem dX0_addBookmark_23 : decode cX0_addBookmark 23 = .ok (.aload_n 0, 1) := by decide +kernel
theorem dX0_addBookmark_24 : decode cX0_addBookmark 24 = .ok (.getfield 9, 3) := by decide +kernel
theorem dX0_addBookmark_27 : decode cX0_addBookmark 27 = .ok (.iload_n 1, 1) := by decide +kernel
theorem dX0_addBookmark_28 : decode cX0_addBookmark 28 = .ok (.invokevirtual 66, 3) := by decide +kernel
theorem dX0_addBookmark_31 : decode cX0_addBookmark 31 = .ok (.invokevirtual 22, 3) := by decide +kernel
theorem dX0_addBookmark_34 : decode cX0_addBookmark 34 = .ok (.ireturn, 1) := by decide +kernel
set_option maxRecDepth 20000 in
theorem ggX0_removeThing_X4_refusalOfNumber : GoodIn wsX0_removeThing wsX4_refusalOfNumber := goodIn_r _ [6, 7, 88, 89, 90, 91, 92, 93, 94, 95, 96, 97, 98] (by decide +kernel) (by decide +kernel)
set_option maxRecDepth 20000 in
theorem gX0_removeThing_X4_refusalOfNumber : GoodIn wsX0_removeThing (wsV RX0 69 RX4 yX4_refusalOfNumber wsX4_refusalOfNumber) := goodIn_app (goodIn_of _ (by decide +kernel)) ggX0_removeThing_X4_refusalOfNumber
set_option maxRecDepth 20000 in
theorem ggX0_removeThing_X4_isSnapshot : GoodIn wsX0_removeThing wsX4_isSnapshot := goodIn_r _ [11, 12, 13, 14, 5, 15, 7, 88, 89, 90, 91, 92, 93, 94, 95, 96, 97, 98] (by decide +kernel) (by decide +kernel)
set_option maxRecDepth 20000 in
theorem gX0_removeThing_X4_isSnapshot : GoodIn wsX0_removeThing (wsV RX0 72 RX4 yX4_isSnapshot wsX4_isSnapshot) := goodIn_app (goodIn_of _ (by decide +kernel)) ggX0_removeThing_X4_isSnapshot
set_option maxRecDepth 20000 in
theorem ggX0_removeThing_X4_isLoose : GoodIn wsX0_removeThing wsX4_isLoose := goodIn_r _ [19, 20, 9, 10, 5, 11, 12, 13, 14, 15, 7, 21, 22, 23, 24, 25, 26, 27, 28, 29, 30, 88, 89, 90, 91, 92, 93, 94, 95, 96, 97, 98] (by decide +kernel) (by decide +kernel)
set_option maxRecDepth 20000 in
theorem gX0_removeThing_X4_isLoose : GoodIn wsX0_removeThing (wsV RX0 76 RX4 yX4_isLoose wsX4_isLoose) := goodIn_app (goodIn_of _ (by decide +kernel)) ggX0_removeThing_X4_isLoose
set_option maxRecDepth 20000 in
theorem ggX0_removeThing_X0_removeSnapshot : GoodIn wsX0_removeThing wsX0_removeSnapshot := goodIn_r _ [35, 1, 36, 37, 38, 5, 39, 7, 30, 40, 41, 42, 43, 44, 45, 46, 47, 48, 49, 50, 51, 52, 53, 54, 55, 56, 57, 58, 59, 60, 61, 62, 63, 64, 65, 66, 67, 68, 69, 70, 71, 72, 73, 25, 74, 87, 88, 89, 90, 91, 92, 93, 94, 95, 96, 97, 98] (by decide +kernel) (by decide +kernel)
set_option maxRecDepth 20000 in
theorem gX0_removeThing_X0_removeSnapshot : GoodIn wsX0_removeThing (wsV RX0 79 RX0 yX0_removeSnapshot wsX0_removeSnapshot) := goodIn_app (goodIn_of _ (by decide +kernel)) ggX0_removeThing_X0_removeSnapshot
set_option maxRecDepth 20000 in
theorem ggX0_removeThing_X4_ownCount : GoodIn wsX0_removeThing wsX4_ownCount := goodIn_r _ [78, 73, 88, 89, 90, 91, 92, 93, 94, 95, 96, 97, 98] (by decide +kernel) (by decide +kernel)
set_option maxRecDepth 20000 in
theorem gX0_removeThing_X4_ownCount : GoodIn wsX0_removeThing (wsV RX0 82 RX4 yX4_ownCount wsX4_ownCount) := goodIn_app (goodIn_of _ (by decide +kernel)) ggX0_removeThing_X4_ownCount
set_option maxRecDepth 20000 in
theorem ggX0_removeThing_X0_emptySlot : GoodIn wsX0_removeThing wsX0_emptySlot := goodIn_r _ [82, 1, 44, 45, 46, 5, 47, 48, 83, 84, 85, 86, 49, 50, 51, 52, 53, 40, 41, 42, 43, 30, 54, 55, 56, 57, 58, 59, 60, 61, 62, 63, 64, 87, 88, 89, 90, 91, 92, 93, 94, 95, 96, 97, 98] (by decide +kernel) (by decide +kernel)
set_option maxRecDepth 20000 in
theorem gX0_removeThing_X0_emptySlot : GoodIn wsX0_removeThing (wsV RX0 40 RX0 yX0_emptySlot wsX0_emptySlot) := goodIn_app (goodIn_of _ (by decide +kernel)) ggX0_removeThing_X0_emptySlot
set_option maxRecDepth 20000 in
theorem ggX0_removeThing_X4_dropThing : GoodIn wsX0_removeThing wsX4_dropThing := goodIn_r _ [72, 7, 58, 30, 73, 25, 74, 48, 88, 89, 90, 91, 92, 93, 94, 95, 96, 97, 98] (by decide +kernel) (by decide +kernel)
set_option maxRecDepth 20000 in
theorem gX0_removeThing_X4_dropThing : GoodIn wsX0_removeThing (wsV RX0 85 RX4 yX4_dropThing wsX4_dropThing) := goodIn_app (goodIn_of _ (by decide +kernel)) ggX0_removeThing_X4_dropThing
theorem dX0_removeThing_0 : decode cX0_removeThing 0 = .ok (.aload_n 0, 1) := by decide +kernel
theorem dX0_removeThing_1 : decode cX0_removeThing 1 = .ok (.getfield 9, 3) := by decide +kernel
theorem dX0_removeThing_4 : decode cX0_removeThing 4 = .ok (.iload_n 1, 1) := by decide +kernel
theorem dX0_removeThing_5 : decode cX0_removeThing 5 = .ok (.invokevirtual 69, 3) := by decide +kernel
theorem dX0_removeThing_8 : decode cX0_removeThing 8 = .ok (.istore_n 2, 1) := by decide +kernel
theorem dX0_removeThing_9 : decode cX0_removeThing 9 = .ok (.iload_n 2, 1) := by decide +kernel
theorem dX0_removeThing_10 : decode cX0_removeThing 10 = .ok (.ifCond .eq 5, 3) := by decide +kernel
theorem dX0_removeThing_13 : decode cX0_removeThing 13 = .ok (.iload_n 2, 1) := by decide +kernel
theorem dX0_removeThing_14 : decode cX0_removeThing 14 = .ok (.ireturn, 1) := by decide +kernel
theorem dX0_removeThing_15 : decode cX0_removeThing 15 = .ok (.aload_n 0, 1) := by decide +kernel
theorem dX0_removeThing_16 : decode cX0_removeThing 16 = .ok (.getfield 9, 3) := by decide +kernel
theorem dX0_removeThing_19 : decode cX0_removeThing 19 = .ok (.iload_n 1, 1) := by decide +kernel
theorem dX0_removeThing_20 : decode cX0_removeThing 20 = .ok (.invokevirtual 72, 3) := by decide +kernel
theorem dX0_removeThing_23 : decode cX0_removeThing 23 = .ok (.ifCond .eq 25, 3) := by decide +kernel
theorem dX0_removeThing_26 : decode cX0_removeThing 26 = .ok (.aload_n 0, 1) := by decide +kernel
theorem dX0_removeThing_27 : decode cX0_removeThing 27 = .ok (.getfield 9, 3) := by decide +kernel
theorem dX0_removeThing_30 : decode cX0_removeThing 30 = .ok (.iload_n 1, 1) := by decide +kernel
theorem dX0_removeThing_31 : decode cX0_removeThing 31 = .ok (.invokevirtual 76, 3) := by decide +kernel
theorem dX0_removeThing_34 : decode cX0_removeThing 34 = .ok (.ifCond .eq 11, 3) := by decide +kernel
theorem dX0_removeThing_37 : decode cX0_removeThing 37 = .ok (.aload_n 0, 1) := by decide +kernel
theorem dX0_removeThing_38 : decode cX0_removeThing 38 = .ok (.iload_n 1, 1) := by decide +kernel
theorem dX0_removeThing_39 : decode cX0_removeThing 39 = .ok (.invokevirtual 79, 3) := by decide +kernel
theorem dX0_removeThing_42 : decode cX0_removeThing 42 = .ok (.goto 5, 3) := by decide +kernel
theorem dX0_removeThing_45 : decode cX0_removeThing 45 = .ok (.bipush (-3), 2) := by decide +kernel
theorem dX0_removeThing_47 : decode cX0_removeThing 47 = .ok (.ireturn, 1) := by decide +kernel
theorem dX0_removeThing_48 : decode cX0_removeThing 48 = .ok (.aload_n 0, 1) := by decide +kernel
theorem dX0_removeThing_49 : decode cX0_removeThing 49 = .ok (.getfield 9, 3) := by decide +kernel
theorem dX0_removeThing_52 : decode cX0_removeThing 52 = .ok (.iload_n 1, 1) := by decide +kernel
theorem dX0_removeThing_53 : decode cX0_removeThing 53 = .ok (.invokevirtual 82, 3) := by decide +kernel
theorem dX0_removeThing_56 : decode cX0_removeThing 56 = .ok (.ifCond .le 6, 3) := by decide +kernel
theorem dX0_removeThing_59 : decode cX0_removeThing 59 = .ok (.bipush (-3), 2) := by decide +kernel
theorem dX0_removeThing_61 : decode cX0_removeThing 61 = .ok (.ireturn, 1) := by decide +kernel
theorem dX0_removeThing_62 : decode cX0_removeThing 62 = .ok (.iconst 0, 1) := by decide +kernel
theorem dX0_removeThing_63 : decode cX0_removeThing 63 = .ok (.istore_n 3, 1) := by decide +kernel
theorem dX0_removeThing_64 : decode cX0_removeThing 64 = .ok (.iconst 0, 1) := by decide +kernel
theorem dX0_removeThing_65 : decode cX0_removeThing 65 = .ok (.istore 4, 2) := by decide +kernel
theorem dX0_removeThing_67 : decode cX0_removeThing 67 = .ok (.iload 4, 2) := by decide +kernel
theorem dX0_removeThing_69 : decode cX0_removeThing 69 = .ok (.bipush 12, 2) := by decide +kernel
theorem dX0_removeThing_71 : decode cX0_removeThing 71 = .ok (.if_icmp .ge 19, 3) := by decide +kernel
theorem dX0_removeThing_74 : decode cX0_removeThing 74 = .ok (.iload_n 3, 1) := by decide +kernel
theorem dX0_removeThing_75 : decode cX0_removeThing 75 = .ok (.aload_n 0, 1) := by decide +kernel
theorem dX0_removeThing_76 : decode cX0_removeThing 76 = .ok (.iload_n 1, 1) := by decide +kernel
theorem dX0_removeThing_77 : decode cX0_removeThing 77 = .ok (.iload 4, 2) := by decide +kernel
theorem dX0_removeThing_79 : decode cX0_removeThing 79 = .ok (.invokevirtual 40, 3) := by decide +kernel
theorem dX0_removeThing_82 : decode cX0_removeThing 82 = .ok (.iadd, 1) := by decide +kernel
theorem dX0_removeThing_83 : decode cX0_removeThing 83 = .ok (.istore_n 3, 1) := by decide +kernel
theorem dX0_removeThing_84 : decode cX0_removeThing 84 = .ok (.iinc 4 1, 3) := by decide +kernel
theorem dX0_removeThing_87 : decode cX0_removeThing 87 = .ok (.goto (-20), 3) := by decide +kernel
theorem dX0_removeThing_90 : decode cX0_removeThing 90 = .ok (.aload_n 0, 1) := by decide +kernel
theorem dX0_removeThing_91 : decode cX0_removeThing 91 = .ok (.getfield 9, 3) := by decide +kernel
theorem dX0_removeThing_94 : decode cX0_removeThing 94 = .ok (.iload_n 1, 1) := by decide +kernel
theorem dX0_removeThing_95 : decode cX0_removeThing 95 = .ok (.invokevirtual 85, 3) := by decide +kernel
theorem dX0_removeThing_98 : decode cX0_removeThing 98 = .ok (.iload_n 3, 1) := by decide +kernel
theorem dX0_removeThing_99 : decode cX0_removeThing 99 = .ok (.ireturn, 1) := by decide +kernel
set_option maxRecDepth 20000 in
theorem ggX0_addFork_X4_refusalAs : GoodIn wsX0_addFork wsX4_refusalAs := goodIn_r _ [6, 7, 8, 9, 5, 10, 11, 12, 13, 14, 15, 45, 46, 47, 48, 49, 50, 51, 52, 53, 54, 55] (by decide +kernel) (by decide +kernel)
set_option maxRecDepth 20000 in
theorem gX0_addFork_X4_refusalAs : GoodIn wsX0_addFork (wsV RX0 30 RX4 yX4_refusalAs wsX4_refusalAs) := goodIn_app (goodIn_of _ (by decide +kernel)) ggX0_addFork_X4_refusalAs
set_option maxRecDepth 20000 in
theorem ggX0_addFork_X4_now : GoodIn wsX0_addFork wsX4_now := goodIn_r _ [19, 20, 45, 46, 47, 48, 49, 50, 51, 52, 53, 54, 55] (by decide +kernel) (by decide +kernel)
set_option maxRecDepth 20000 in
theorem gX0_addFork_X4_now : GoodIn wsX0_addFork (wsV RX0 16 RX4 yX4_now wsX4_now) := goodIn_app (goodIn_of _ (by decide +kernel)) ggX0_addFork_X4_now
set_option maxRecDepth 20000 in
theorem ggX0_addFork_X4_newThing : GoodIn wsX0_addFork wsX4_newThing := goodIn_r _ [24, 11, 25, 45, 46, 47, 48, 49, 50, 51, 52, 53, 54, 55] (by decide +kernel) (by decide +kernel)
set_option maxRecDepth 20000 in
theorem gX0_addFork_X4_newThing : GoodIn wsX0_addFork (wsV RX0 22 RX4 yX4_newThing wsX4_newThing) := goodIn_app (goodIn_of _ (by decide +kernel)) ggX0_addFork_X4_newThing
set_option maxRecDepth 20000 in
theorem ggX0_addFork_X4_copySlots : GoodIn wsX0_addFork wsX4_copySlots := goodIn_r _ [29, 30, 31, 32, 5, 33, 34, 35, 36, 37, 38, 45, 46, 47, 48, 49, 50, 51, 52, 53, 54, 55] (by decide +kernel) (by decide +kernel)
set_option maxRecDepth 20000 in
theorem gX0_addFork_X4_copySlots : GoodIn wsX0_addFork (wsV RX0 43 RX4 yX4_copySlots wsX4_copySlots) := goodIn_app (goodIn_of _ (by decide +kernel)) ggX0_addFork_X4_copySlots
set_option maxRecDepth 20000 in
theorem ggX0_addFork_X4_setPrev : GoodIn wsX0_addFork wsX4_setPrev := goodIn_r _ [42, 43, 45, 46, 47, 48, 49, 50, 51, 52, 53, 54, 55] (by decide +kernel) (by decide +kernel)
set_option maxRecDepth 20000 in
theorem gX0_addFork_X4_setPrev : GoodIn wsX0_addFork (wsV RX0 50 RX4 yX4_setPrev wsX4_setPrev) := goodIn_app (goodIn_of _ (by decide +kernel)) ggX0_addFork_X4_setPrev
theorem dX0_addFork_0 : decode cX0_addFork 0 = .ok (.aload_n 0, 1) := by decide +kernel
theorem dX0_addFork_1 : decode cX0_addFork 1 = .ok (.getfield 9, 3) := by decide +kernel
theorem dX0_addFork_4 : decode cX0_addFork 4 = .ok (.iload_n 1, 1) := by decide +kernel
theorem dX0_addFork_5 : decode cX0_addFork 5 = .ok (.iconst 2, 1) := by decide +kernel
theorem dX0_addFork_6 : decode cX0_addFork 6 = .ok (.invokevirtual 30, 3) := by decide +kernel
theorem dX0_addFork_9 : decode cX0_addFork 9 = .ok (.istore_n 2, 1) := by decide +kernel
theorem dX0_addFork_10 : decode cX0_addFork 10 = .ok (.iload_n 2, 1) := by decide +kernel
theorem dX0_addFork_11 : decode cX0_addFork 11 = .ok (.ifCond .eq 5, 3) := by decide +kernel
theorem dX0_addFork_14 : decode cX0_addFork 14 = .ok (.iload_n 2, 1) := by decide +kernel
theorem dX0_addFork_15 : decode cX0_addFork 15 = .ok (.ireturn, 1) := by decide +kernel
theorem dX0_addFork_16 : decode cX0_addFork 16 = .ok (.aload_n 0, 1) := by decide +kernel
theorem dX0_addFork_17 : decode cX0_addFork 17 = .ok (.getfield 9, 3) := by decide +kernel
theorem dX0_addFork_20 : decode cX0_addFork 20 = .ok (.iconst 0, 1) := by decide +kernel
theorem dX0_addFork_21 : decode cX0_addFork 21 = .ok (.aload_n 0, 1) := by decide +kernel
theorem dX0_addFork_22 : decode cX0_addFork 22 = .ok (.getfield 9, 3) := by decide +kernel
theorem dX0_addFork_25 : decode cX0_addFork 25 = .ok (.invokevirtual 16, 3) := by decide +kernel
theorem dX0_addFork_28 : decode cX0_addFork 28 = .ok (.invokevirtual 22, 3) := by decide +kernel
theorem dX0_addFork_31 : decode cX0_addFork 31 = .ok (.istore_n 3, 1) := by decide +kernel
theorem dX0_addFork_32 : decode cX0_addFork 32 = .ok (.iload_n 3, 1) := by decide +kernel
theorem dX0_addFork_33 : decode cX0_addFork 33 = .ok (.bipush (-4), 2) := by decide +kernel
theorem dX0_addFork_35 : decode cX0_addFork 35 = .ok (.if_icmp .eq 21, 3) := by decide +kernel
theorem dX0_addFork_38 : decode cX0_addFork 38 = .ok (.aload_n 0, 1) := by decide +kernel
theorem dX0_addFork_39 : decode cX0_addFork 39 = .ok (.getfield 9, 3) := by decide +kernel
theorem dX0_addFork_42 : decode cX0_addFork 42 = .ok (.iload_n 1, 1) := by decide +kernel
theorem dX0_addFork_43 : decode cX0_addFork 43 = .ok (.iload_n 3, 1) := by decide +kernel
theorem dX0_addFork_44 : decode cX0_addFork 44 = .ok (.invokevirtual 43, 3) := by decide +kernel
theorem dX0_addFork_47 : decode cX0_addFork 47 = .ok (.aload_n 0, 1) := by decide +kernel
theorem dX0_addFork_48 : decode cX0_addFork 48 = .ok (.getfield 9, 3) := by decide +kernel
theorem dX0_addFork_51 : decode cX0_addFork 51 = .ok (.iload_n 3, 1) := by decide +kernel
theorem dX0_addFork_52 : decode cX0_addFork 52 = .ok (.iload_n 1, 1) := by decide +kernel
theorem dX0_addFork_53 : decode cX0_addFork 53 = .ok (.invokevirtual 50, 3) := by decide +kernel
theorem dX0_addFork_56 : decode cX0_addFork 56 = .ok (.iload_n 3, 1) := by decide +kernel
theorem dX0_addFork_57 : decode cX0_addFork 57 = .ok (.ireturn, 1) := by decide +kernel
set_option maxRecDepth 20000 in
theorem ggX0_promoteFiles_X4_refusalAs : GoodIn wsX0_promoteFiles wsX4_refusalAs := goodIn_r _ [6, 7, 8, 9, 5, 10, 11, 12, 13, 14, 15, 48, 49, 50, 51, 52, 53, 54, 55, 56, 57, 58] (by decide +kernel) (by decide +kernel)
set_option maxRecDepth 20000 in
theorem gX0_promoteFiles_X4_refusalAs : GoodIn wsX0_promoteFiles (wsV RX0 30 RX4 yX4_refusalAs wsX4_refusalAs) := goodIn_app (goodIn_of _ (by decide +kernel)) ggX0_promoteFiles_X4_refusalAs
set_option maxRecDepth 20000 in
theorem ggX0_promoteFiles_X4_originOf : GoodIn wsX0_promoteFiles wsX4_originOf := goodIn_r _ [19, 20, 21, 22, 5, 23, 12, 13, 14, 15, 11, 24, 25, 26, 27, 28, 29, 30, 31, 32, 33, 34, 35, 36, 37, 48, 49, 50, 51, 52, 53, 54, 55, 56, 57, 58] (by decide +kernel) (by decide +kernel)
set_option maxRecDepth 20000 in
theorem gX0_promoteFiles_X4_originOf : GoodIn wsX0_promoteFiles (wsV RX0 88 RX4 yX4_originOf wsX4_originOf) := goodIn_app (goodIn_of _ (by decide +kernel)) ggX0_promoteFiles_X4_originOf
set_option maxRecDepth 20000 in
theorem ggX0_promoteFiles_X4_ownerOf : GoodIn wsX0_promoteFiles wsX4_ownerOf := goodIn_r _ [41, 28, 48, 49, 50, 51, 52, 53, 54, 55, 56, 57, 58] (by decide +kernel) (by decide +kernel)
set_option maxRecDepth 20000 in
theorem gX0_promoteFiles_X4_ownerOf : GoodIn wsX0_promoteFiles (wsV RX0 91 RX4 yX4_ownerOf wsX4_ownerOf) := goodIn_app (goodIn_of _ (by decide +kernel)) ggX0_promoteFiles_X4_ownerOf
set_option maxRecDepth 20000 in
theorem ggX0_promoteFiles_X4_setOwner : GoodIn wsX0_promoteFiles wsX4_setOwner := goodIn_r _ [45, 28, 48, 49, 50, 51, 52, 53, 54, 55, 56, 57, 58] (by decide +kernel) (by decide +kernel)
set_option maxRecDepth 20000 in
theorem gX0_promoteFiles_X4_setOwner : GoodIn wsX0_promoteFiles (wsV RX0 53 RX4 yX4_setOwner wsX4_setOwner) := goodIn_app (goodIn_of _ (by decide +kernel)) ggX0_promoteFiles_X4_setOwner
set_option maxRecDepth 20000 in
theorem ggX0_promoteFiles_X4_prevOf : GoodIn wsX0_promoteFiles wsX4_prevOf := goodIn_r _ [36, 37, 48, 49, 50, 51, 52, 53, 54, 55, 56, 57, 58] (by decide +kernel) (by decide +kernel)
set_option maxRecDepth 20000 in
theorem gX0_promoteFiles_X4_prevOf : GoodIn wsX0_promoteFiles (wsV RX0 46 RX4 yX4_prevOf wsX4_prevOf) := goodIn_app (goodIn_of _ (by decide +kernel)) ggX0_promoteFiles_X4_prevOf
theorem dX0_promoteFiles_0 : decode cX0_promoteFiles 0 = .ok (.aload_n 0, 1) := by decide +kernel
theorem dX0_promoteFiles_1 : decode cX0_promoteFiles 1 = .ok (.getfield 9, 3) := by decide +kernel
theorem dX0_promoteFiles_4 : decode cX0_promoteFiles 4 = .ok (.iload_n 1, 1) := by decide +kernel
theorem dX0_promoteFiles_5 : decode cX0_promoteFiles 5 = .ok (.iconst 0, 1) := by decide +kernel
theorem dX0_promoteFiles_6 : decode cX0_promoteFiles 6 = .ok (.invokevirtual 30, 3) := by decide +kernel
theorem dX0_promoteFiles_9 : decode cX0_promoteFiles 9 = .ok (.istore_n 2, 1) := by decide +kernel
theorem dX0_promoteFiles_10 : decode cX0_promoteFiles 10 = .ok (.iload_n 2, 1) := by decide +kernel
theorem dX0_promoteFiles_11 : decode cX0_promoteFiles 11 = .ok (.ifCond .eq 5, 3) := by decide +kernel
theorem dX0_promoteFiles_14 : decode cX0_promoteFiles 14 = .ok (.iload_n 2, 1) := by decide +kernel
theorem dX0_promoteFiles_15 : decode cX0_promoteFiles 15 = .ok (.ireturn, 1) := by decide +kernel
theorem dX0_promoteFiles_16 : decode cX0_promoteFiles 16 = .ok (.aload_n 0, 1) := by decide +kernel
theorem dX0_promoteFiles_17 : decode cX0_promoteFiles 17 = .ok (.getfield 9, 3) := by decide +kernel
theorem dX0_promoteFiles_20 : decode cX0_promoteFiles 20 = .ok (.iload_n 1, 1) := by decide +kernel
theorem dX0_promoteFiles_21 : decode cX0_promoteFiles 21 = .ok (.invokevirtual 88, 3) := by decide +kernel
theorem dX0_promoteFiles_24 : decode cX0_promoteFiles 24 = .ok (.istore_n 3, 1) := by decide +kernel
theorem dX0_promoteFiles_25 : decode cX0_promoteFiles 25 = .ok (.iload_n 3, 1) := by decide +kernel
theorem dX0_promoteFiles_26 : decode cX0_promoteFiles 26 = .ok (.iconst (-1), 1) := by decide +kernel
theorem dX0_promoteFiles_27 : decode cX0_promoteFiles 27 = .ok (.if_icmp .ne 6, 3) := by decide +kernel
theorem dX0_promoteFiles_30 : decode cX0_promoteFiles 30 = .ok (.bipush (-3), 2) := by decide +kernel
theorem dX0_promoteFiles_32 : decode cX0_promoteFiles 32 = .ok (.ireturn, 1) := by decide +kernel
theorem dX0_promoteFiles_33 : decode cX0_promoteFiles 33 = .ok (.aload_n 0, 1) := by decide +kernel
theorem dX0_promoteFiles_34 : decode cX0_promoteFiles 34 = .ok (.getfield 9, 3) := by decide +kernel
theorem dX0_promoteFiles_37 : decode cX0_promoteFiles 37 = .ok (.iload_n 3, 1) := by decide +kernel
theorem dX0_promoteFiles_38 : decode cX0_promoteFiles 38 = .ok (.invokevirtual 91, 3) := by decide +kernel
theorem dX0_promoteFiles_41 : decode cX0_promoteFiles 41 = .ok (.istore 4, 2) := by decide +kernel
theorem dX0_promoteFiles_43 : decode cX0_promoteFiles 43 = .ok (.iconst 0, 1) := by decide +kernel
theorem dX0_promoteFiles_44 : decode cX0_promoteFiles 44 = .ok (.istore 5, 2) := by decide +kernel
theorem dX0_promoteFiles_46 : decode cX0_promoteFiles 46 = .ok (.iconst 0, 1) := by decide +kernel
theorem dX0_promoteFiles_47 : decode cX0_promoteFiles 47 = .ok (.istore 6, 2) := by decide +kernel
theorem dX0_promoteFiles_49 : decode cX0_promoteFiles 49 = .ok (.iload 6, 2) := by decide +kernel
theorem dX0_promoteFiles_51 : decode cX0_promoteFiles 51 = .ok (.bipush 20, 2) := by decide +kernel
theorem dX0_promoteFiles_53 : decode cX0_promoteFiles 53 = .ok (.if_icmp .ge 48, 3) := by decide +kernel
theorem dX0_promoteFiles_56 : decode cX0_promoteFiles 56 = .ok (.iload_n 3, 1) := by decide +kernel
theorem dX0_promoteFiles_57 : decode cX0_promoteFiles 57 = .ok (.iconst (-1), 1) := by decide +kernel
theorem dX0_promoteFiles_58 : decode cX0_promoteFiles 58 = .ok (.if_icmp .eq 43, 3) := by decide +kernel
theorem dX0_promoteFiles_61 : decode cX0_promoteFiles 61 = .ok (.aload_n 0, 1) := by decide +kernel
theorem dX0_promoteFiles_62 : decode cX0_promoteFiles 62 = .ok (.getfield 9, 3) := by decide +kernel
theorem dX0_promoteFiles_65 : decode cX0_promoteFiles 65 = .ok (.iload_n 3, 1) := by decide +kernel
theorem dX0_promoteFiles_66 : decode cX0_promoteFiles 66 = .ok (.invokevirtual 91, 3) := by decide +kernel
theorem dX0_promoteFiles_69 : decode cX0_promoteFiles 69 = .ok (.iload 4, 2) := by decide +kernel
theorem dX0_promoteFiles_71 : decode cX0_promoteFiles 71 = .ok (.if_icmp .ne 15, 3) := by decide +kernel
theorem dX0_promoteFiles_74 : decode cX0_promoteFiles 74 = .ok (.aload_n 0, 1) := by decide +kernel
theorem dX0_promoteFiles_75 : decode cX0_promoteFiles 75 = .ok (.getfield 9, 3) := by decide +kernel
theorem dX0_promoteFiles_78 : decode cX0_promoteFiles 78 = .ok (.iload_n 3, 1) := by decide +kernel
theorem dX0_promoteFiles_79 : decode cX0_promoteFiles 79 = .ok (.iload_n 1, 1) := by decide +kernel
theorem dX0_promoteFiles_80 : decode cX0_promoteFiles 80 = .ok (.invokevirtual 53, 3) := by decide +kernel
theorem dX0_promoteFiles_83 : decode cX0_promoteFiles 83 = .ok (.iinc 5 1, 3) := by decide +kernel
theorem dX0_promoteFiles_86 : decode cX0_promoteFiles 86 = .ok (.aload_n 0, 1) := by decide +kernel
theorem dX0_promoteFiles_87 : decode cX0_promoteFiles 87 = .ok (.getfield 9, 3) := by decide +kernel
theorem dX0_promoteFiles_90 : decode cX0_promoteFiles 90 = .ok (.iload_n 3, 1) := by decide +kernel
theorem dX0_promoteFiles_91 : decode cX0_promoteFiles 91 = .ok (.invokevirtual 46, 3) := by decide +kernel
theorem dX0_promoteFiles_94 : decode cX0_promoteFiles 94 = .ok (.istore_n 3, 1) := by decide +kernel
theorem dX0_promoteFiles_95 : decode cX0_promoteFiles 95 = .ok (.iinc 6 1, 3) := by decide +kernel
theorem dX0_promoteFiles_98 : decode cX0_promoteFiles 98 = .ok (.goto (-49), 3) := by decide +kernel
theorem dX0_promoteFiles_101 : decode cX0_promoteFiles 101 = .ok (.iload 5, 2) := by decide +kernel
theorem dX0_promoteFiles_103 : decode cX0_promoteFiles 103 = .ok (.ireturn, 1) := by decide +kernel
set_option maxRecDepth 20000 in
theorem ggX0_rollFilesBack_X4_refusalAs : GoodIn wsX0_rollFilesBack wsX4_refusalAs := goodIn_r _ [6, 7, 8, 9, 5, 10, 11, 12, 13, 14, 15, 58, 59, 60, 61, 62, 63, 64, 65, 66, 67, 68] (by decide +kernel) (by decide +kernel)
set_option maxRecDepth 20000 in
theorem gX0_rollFilesBack_X4_refusalAs : GoodIn wsX0_rollFilesBack (wsV RX0 30 RX4 yX4_refusalAs wsX4_refusalAs) := goodIn_app (goodIn_of _ (by decide +kernel)) ggX0_rollFilesBack_X4_refusalAs
set_option maxRecDepth 20000 in
theorem ggX0_rollFilesBack_X4_prevOf : GoodIn wsX0_rollFilesBack wsX4_prevOf := goodIn_r _ [19, 20, 58, 59, 60, 61, 62, 63, 64, 65, 66, 67, 68] (by decide +kernel) (by decide +kernel)
set_option maxRecDepth 20000 in
theorem gX0_rollFilesBack_X4_prevOf : GoodIn wsX0_rollFilesBack (wsV RX0 46 RX4 yX4_prevOf wsX4_prevOf) := goodIn_app (goodIn_of _ (by decide +kernel)) ggX0_rollFilesBack_X4_prevOf
set_option maxRecDepth 20000 in
theorem ggX0_rollFilesBack_X0_emptySlot : GoodIn wsX0_rollFilesBack wsX0_emptySlot := goodIn_r _ [25, 1, 26, 27, 28, 5, 29, 30, 31, 32, 33, 34, 35, 36, 37, 38, 39, 16, 17, 18, 19, 20, 40, 41, 42, 43, 44, 45, 46, 47, 48, 49, 50, 57, 58, 59, 60, 61, 62, 63, 64, 65, 66, 67, 68] (by decide +kernel) (by decide +kernel)
set_option maxRecDepth 20000 in
theorem gX0_rollFilesBack_X0_emptySlot : GoodIn wsX0_rollFilesBack (wsV RX0 40 RX0 yX0_emptySlot wsX0_emptySlot) := goodIn_app (goodIn_of _ (by decide +kernel)) ggX0_rollFilesBack_X0_emptySlot
set_option maxRecDepth 20000 in
theorem ggX0_rollFilesBack_X4_copySlots : GoodIn wsX0_rollFilesBack wsX4_copySlots := goodIn_r _ [54, 55, 27, 28, 5, 29, 30, 56, 32, 33, 34, 58, 59, 60, 61, 62, 63, 64, 65, 66, 67, 68] (by decide +kernel) (by decide +kernel)
set_option maxRecDepth 20000 in
theorem gX0_rollFilesBack_X4_copySlots : GoodIn wsX0_rollFilesBack (wsV RX0 43 RX4 yX4_copySlots wsX4_copySlots) := goodIn_app (goodIn_of _ (by decide +kernel)) ggX0_rollFilesBack_X4_copySlots
theorem dX0_rollFilesBack_0 : decode cX0_rollFilesBack 0 = .ok (.aload_n 0, 1) := by decide +kernel
theorem dX0_rollFilesBack_1 : decode cX0_rollFilesBack 1 = .ok (.getfield 9, 3) := by decide +kernel
theorem dX0_rollFilesBack_4 : decode cX0_rollFilesBack 4 = .ok (.iload_n 1, 1) := by decide +kernel
theorem dX0_rollFilesBack_5 : decode cX0_rollFilesBack 5 = .ok (.iconst 0, 1) := by decide +kernel
theorem dX0_rollFilesBack_6 : decode cX0_rollFilesBack 6 = .ok (.invokevirtual 30, 3) := by decide +kernel
theorem dX0_rollFilesBack_9 : decode cX0_rollFilesBack 9 = .ok (.istore_n 2, 1) := by decide +kernel
theorem dX0_rollFilesBack_10 : decode cX0_rollFilesBack 10 = .ok (.iload_n 2, 1) := by decide +kernel
theorem dX0_rollFilesBack_11 : decode cX0_rollFilesBack 11 = .ok (.ifCond .eq 5, 3) := by decide +kernel
theorem dX0_rollFilesBack_14 : decode cX0_rollFilesBack 14 = .ok (.iload_n 2, 1) := by decide +kernel
theorem dX0_rollFilesBack_15 : decode cX0_rollFilesBack 15 = .ok (.ireturn, 1) := by decide +kernel
theorem dX0_rollFilesBack_16 : decode cX0_rollFilesBack 16 = .ok (.aload_n 0, 1) := by decide +kernel
theorem dX0_rollFilesBack_17 : decode cX0_rollFilesBack 17 = .ok (.getfield 9, 3) := by decide +kernel
theorem dX0_rollFilesBack_20 : decode cX0_rollFilesBack 20 = .ok (.iload_n 1, 1) := by decide +kernel
theorem dX0_rollFilesBack_21 : decode cX0_rollFilesBack 21 = .ok (.invokevirtual 46, 3) := by decide +kernel
theorem dX0_rollFilesBack_24 : decode cX0_rollFilesBack 24 = .ok (.istore_n 3, 1) := by decide +kernel
theorem dX0_rollFilesBack_25 : decode cX0_rollFilesBack 25 = .ok (.iload_n 3, 1) := by decide +kernel
theorem dX0_rollFilesBack_26 : decode cX0_rollFilesBack 26 = .ok (.iconst (-1), 1) := by decide +kernel
theorem dX0_rollFilesBack_27 : decode cX0_rollFilesBack 27 = .ok (.if_icmp .ne 6, 3) := by decide +kernel
theorem dX0_rollFilesBack_30 : decode cX0_rollFilesBack 30 = .ok (.bipush (-3), 2) := by decide +kernel
theorem dX0_rollFilesBack_32 : decode cX0_rollFilesBack 32 = .ok (.ireturn, 1) := by decide +kernel
theorem dX0_rollFilesBack_33 : decode cX0_rollFilesBack 33 = .ok (.iconst 0, 1) := by decide +kernel
theorem dX0_rollFilesBack_34 : decode cX0_rollFilesBack 34 = .ok (.istore 4, 2) := by decide +kernel
theorem dX0_rollFilesBack_36 : decode cX0_rollFilesBack 36 = .ok (.iconst 0, 1) := by decide +kernel
theorem dX0_rollFilesBack_37 : decode cX0_rollFilesBack 37 = .ok (.istore 5, 2) := by decide +kernel
theorem dX0_rollFilesBack_39 : decode cX0_rollFilesBack 39 = .ok (.iload 5, 2) := by decide +kernel
theorem dX0_rollFilesBack_41 : decode cX0_rollFilesBack 41 = .ok (.bipush 12, 2) := by decide +kernel
theorem dX0_rollFilesBack_43 : decode cX0_rollFilesBack 43 = .ok (.if_icmp .ge 21, 3) := by decide +kernel
theorem dX0_rollFilesBack_46 : decode cX0_rollFilesBack 46 = .ok (.iload 4, 2) := by decide +kernel
theorem dX0_rollFilesBack_48 : decode cX0_rollFilesBack 48 = .ok (.aload_n 0, 1) := by decide +kernel
theorem dX0_rollFilesBack_49 : decode cX0_rollFilesBack 49 = .ok (.iload_n 1, 1) := by decide +kernel
theorem dX0_rollFilesBack_50 : decode cX0_rollFilesBack 50 = .ok (.iload 5, 2) := by decide +kernel
theorem dX0_rollFilesBack_52 : decode cX0_rollFilesBack 52 = .ok (.invokevirtual 40, 3) := by decide +kernel
theorem dX0_rollFilesBack_55 : decode cX0_rollFilesBack 55 = .ok (.iadd, 1) := by decide +kernel
theorem dX0_rollFilesBack_56 : decode cX0_rollFilesBack 56 = .ok (.istore 4, 2) := by decide +kernel
theorem dX0_rollFilesBack_58 : decode cX0_rollFilesBack 58 = .ok (.iinc 5 1, 3) := by decide +kernel
theorem dX0_rollFilesBack_61 : decode cX0_rollFilesBack 61 = .ok (.goto (-22), 3) := by decide +kernel
theorem dX0_rollFilesBack_64 : decode cX0_rollFilesBack 64 = .ok (.aload_n 0, 1) := by decide +kernel
theorem dX0_rollFilesBack_65 : decode cX0_rollFilesBack 65 = .ok (.getfield 9, 3) := by decide +kernel
theorem dX0_rollFilesBack_68 : decode cX0_rollFilesBack 68 = .ok (.iload_n 3, 1) := by decide +kernel
theorem dX0_rollFilesBack_69 : decode cX0_rollFilesBack 69 = .ok (.iload_n 1, 1) := by decide +kernel
theorem dX0_rollFilesBack_70 : decode cX0_rollFilesBack 70 = .ok (.invokevirtual 43, 3) := by decide +kernel
theorem dX0_rollFilesBack_73 : decode cX0_rollFilesBack 73 = .ok (.iload 4, 2) := by decide +kernel
theorem dX0_rollFilesBack_75 : decode cX0_rollFilesBack 75 = .ok (.ireturn, 1) := by decide +kernel
set_option maxRecDepth 20000 in
theorem ggX0_passTime_X4_now : GoodIn wsX0_passTime wsX4_now := goodIn_r _ [7, 8, 14, 15, 16, 17, 18, 19, 20, 21, 22, 23, 24] (by decide +kernel) (by decide +kernel)
set_option maxRecDepth 20000 in
theorem gX0_passTime_X4_now : GoodIn wsX0_passTime (wsV RX0 16 RX4 yX4_now wsX4_now) := goodIn_app (goodIn_of _ (by decide +kernel)) ggX0_passTime_X4_now
set_option maxRecDepth 20000 in
theorem ggX0_passTime_X4_setTime : GoodIn wsX0_passTime wsX4_setTime := goodIn_r _ [12, 8, 14, 15, 16, 17, 18, 19, 20, 21, 22, 23, 24] (by decide +kernel) (by decide +kernel)
set_option maxRecDepth 20000 in
theorem gX0_passTime_X4_setTime : GoodIn wsX0_passTime (wsV RX0 59 RX4 yX4_setTime wsX4_setTime) := goodIn_app (goodIn_of _ (by decide +kernel)) ggX0_passTime_X4_setTime
theorem dX0_passTime_0 : decode cX0_passTime 0 = .ok (.aload_n 0, 1) := by decide +kernel
theorem dX0_passTime_1 : decode cX0_passTime 1 = .ok (.getfield 9, 3) := by decide +kernel
theorem dX0_passTime_4 : decode cX0_passTime 4 = .ok (.invokevirtual 16, 3) := by decide +kernel
theorem dX0_passTime_7 : decode cX0_passTime 7 = .ok (.ldc 94, 2) := by decide +kernel
theorem dX0_passTime_9 : decode cX0_passTime 9 = .ok (.if_icmp .lt 6, 3) := by decide +kernel
theorem dX0_passTime_12 : decode cX0_passTime 12 = .ok (.bipush (-3), 2) := by decide +kernel
theorem dX0_passTime_14 : decode cX0_passTime 14 = .ok (.ireturn, 1) := by decide +kernel
theorem dX0_passTime_15 : decode cX0_passTime 15 = .ok (.aload_n 0, 1) := by decide +kernel
theorem dX0_passTime_16 : decode cX0_passTime 16 = .ok (.getfield 9, 3) := by decide +kernel
theorem dX0_passTime_19 : decode cX0_passTime 19 = .ok (.aload_n 0, 1) := by decide +kernel
theorem dX0_passTime_20 : decode cX0_passTime 20 = .ok (.getfield 9, 3) := by decide +kernel
theorem dX0_passTime_23 : decode cX0_passTime 23 = .ok (.invokevirtual 16, 3) := by decide +kernel
theorem dX0_passTime_26 : decode cX0_passTime 26 = .ok (.iconst 1, 1) := by decide +kernel
theorem dX0_passTime_27 : decode cX0_passTime 27 = .ok (.iadd, 1) := by decide +kernel
theorem dX0_passTime_28 : decode cX0_passTime 28 = .ok (.invokevirtual 59, 3) := by decide +kernel
theorem dX0_passTime_31 : decode cX0_passTime 31 = .ok (.aload_n 0, 1) := by decide +kernel
theorem dX0_passTime_32 : decode cX0_passTime 32 = .ok (.getfield 9, 3) := by decide +kernel
theorem dX0_passTime_35 : decode cX0_passTime 35 = .ok (.invokevirtual 16, 3) := by decide +kernel
theorem dX0_passTime_38 : decode cX0_passTime 38 = .ok (.ireturn, 1) := by decide +kernel
set_option maxRecDepth 20000 in
theorem ggX0_removeExpired_X4_refusalAs : GoodIn wsX0_removeExpired wsX4_refusalAs := goodIn_r _ [6, 7, 8, 9, 5, 10, 11, 12, 13, 14, 15, 88, 89, 90, 91, 92, 93, 94, 95, 96, 97, 98] (by decide +kernel) (by decide +kernel)
set_option maxRecDepth 20000 in
theorem gX0_removeExpired_X4_refusalAs : GoodIn wsX0_removeExpired (wsV RX0 30 RX4 yX4_refusalAs wsX4_refusalAs) := goodIn_app (goodIn_of _ (by decide +kernel)) ggX0_removeExpired_X4_refusalAs
set_option maxRecDepth 20000 in
theorem ggX0_removeExpired_X4_ownCount : GoodIn wsX0_removeExpired wsX4_ownCount := goodIn_r _ [19, 20, 88, 89, 90, 91, 92, 93, 94, 95, 96, 97, 98] (by decide +kernel) (by decide +kernel)
set_option maxRecDepth 20000 in
theorem gX0_removeExpired_X4_ownCount : GoodIn wsX0_removeExpired (wsV RX0 82 RX4 yX4_ownCount wsX4_ownCount) := goodIn_app (goodIn_of _ (by decide +kernel)) ggX0_removeExpired_X4_ownCount
set_option maxRecDepth 20000 in
theorem ggX0_removeExpired_X4_inChain : GoodIn wsX0_removeExpired wsX4_inChain := goodIn_r _ [24, 25, 26, 27, 5, 28, 29, 88, 89, 90, 91, 92, 93, 94, 95, 96, 97, 98] (by decide +kernel) (by decide +kernel)
set_option maxRecDepth 20000 in
theorem gX0_removeExpired_X4_inChain : GoodIn wsX0_removeExpired (wsV RX0 95 RX4 yX4_inChain wsX4_inChain) := goodIn_app (goodIn_of _ (by decide +kernel)) ggX0_removeExpired_X4_inChain
set_option maxRecDepth 20000 in
theorem ggX0_removeExpired_X4_madeOf : GoodIn wsX0_removeExpired wsX4_madeOf := goodIn_r _ [33, 34, 88, 89, 90, 91, 92, 93, 94, 95, 96, 97, 98] (by decide +kernel) (by decide +kernel)
set_option maxRecDepth 20000 in
theorem gX0_removeExpired_X4_madeOf : GoodIn wsX0_removeExpired (wsV RX0 66 RX4 yX4_madeOf wsX4_madeOf) := goodIn_app (goodIn_of _ (by decide +kernel)) ggX0_removeExpired_X4_madeOf
set_option maxRecDepth 20000 in
theorem ggX0_removeExpired_X4_isLoose : GoodIn wsX0_removeExpired wsX4_isLoose := goodIn_r _ [38, 39, 40, 41, 5, 42, 12, 13, 14, 15, 11, 43, 44, 45, 46, 47, 48, 49, 50, 51, 29, 88, 89, 90, 91, 92, 93, 94, 95, 96, 97, 98] (by decide +kernel) (by decide +kernel)
set_option maxRecDepth 20000 in
theorem gX0_removeExpired_X4_isLoose : GoodIn wsX0_removeExpired (wsV RX0 76 RX4 yX4_isLoose wsX4_isLoose) := goodIn_app (goodIn_of _ (by decide +kernel)) ggX0_removeExpired_X4_isLoose
set_option maxRecDepth 20000 in
theorem ggX0_removeExpired_X0_removeSnapshot : GoodIn wsX0_removeExpired wsX0_removeSnapshot := goodIn_r _ [56, 1, 57, 58, 59, 5, 60, 11, 29, 61, 26, 27, 28, 62, 63, 64, 65, 66, 67, 68, 69, 70, 71, 30, 31, 32, 33, 34, 72, 73, 74, 75, 76, 77, 78, 79, 80, 81, 82, 83, 84, 85, 20, 47, 86, 87, 88, 89, 90, 91, 92, 93, 94, 95, 96, 97, 98] (by decide +kernel) (by decide +kernel)
set_option maxRecDepth 20000 in
theorem gX0_removeExpired_X0_removeSnapshot : GoodIn wsX0_removeExpired (wsV RX0 79 RX0 yX0_removeSnapshot wsX0_removeSnapshot) := goodIn_app (goodIn_of _ (by decide +kernel)) ggX0_removeExpired_X0_removeSnapshot
theorem dX0_removeExpired_0 : decode cX0_removeExpired 0 = .ok (.iload_n 2, 1) := by decide +kernel
theorem dX0_removeExpired_1 : decode cX0_removeExpired 1 = .ok (.ifCond .lt 20, 3) := by decide +kernel
theorem dX0_removeExpired_4 : decode cX0_removeExpired 4 = .ok (.iload_n 2, 1) := by decide +kernel
theorem dX0_removeExpired_5 : decode cX0_removeExpired 5 = .ok (.bipush 20, 2) := by decide +kernel
theorem dX0_removeExpired_7 : decode cX0_removeExpired 7 = .ok (.if_icmp .gt 14, 3) := by decide +kernel
theorem dX0_removeExpired_10 : decode cX0_removeExpired 10 = .ok (.iload_n 3, 1) := by decide +kernel
theorem dX0_removeExpired_11 : decode cX0_removeExpired 11 = .ok (.iconst 1, 1) := by decide +kernel
theorem dX0_removeExpired_12 : decode cX0_removeExpired 12 = .ok (.if_icmp .lt 9, 3) := by decide +kernel
theorem dX0_removeExpired_15 : decode cX0_removeExpired 15 = .ok (.iload_n 3, 1) := by decide +kernel
theorem dX0_removeExpired_16 : decode cX0_removeExpired 16 = .ok (.bipush 100, 2) := by decide +kernel
theorem dX0_removeExpired_18 : decode cX0_removeExpired 18 = .ok (.if_icmp .le 6, 3) := by decide +kernel
theorem dX0_removeExpired_21 : decode cX0_removeExpired 21 = .ok (.bipush (-2), 2) := by decide +kernel
theorem dX0_removeExpired_23 : decode cX0_removeExpired 23 = .ok (.ireturn, 1) := by decide +kernel
theorem dX0_removeExpired_24 : decode cX0_removeExpired 24 = .ok (.aload_n 0, 1) := by decide +kernel
theorem dX0_removeExpired_25 : decode cX0_removeExpired 25 = .ok (.getfield 9, 3) := by decide +kernel
theorem dX0_removeExpired_28 : decode cX0_removeExpired 28 = .ok (.iload_n 1, 1) := by decide +kernel
theorem dX0_removeExpired_29 : decode cX0_removeExpired 29 = .ok (.iconst 0, 1) := by decide +kernel
theorem dX0_removeExpired_30 : decode cX0_removeExpired 30 = .ok (.invokevirtual 30, 3) := by decide +kernel
theorem dX0_removeExpired_33 : decode cX0_removeExpired 33 = .ok (.istore 4, 2) := by decide +kernel
theorem dX0_removeExpired_35 : decode cX0_removeExpired 35 = .ok (.iload 4, 2) := by decide +kernel
theorem dX0_removeExpired_37 : decode cX0_removeExpired 37 = .ok (.ifCond .eq 6, 3) := by decide +kernel
theorem dX0_removeExpired_40 : decode cX0_removeExpired 40 = .ok (.iload 4, 2) := by decide +kernel
theorem dX0_removeExpired_42 : decode cX0_removeExpired 42 = .ok (.ireturn, 1) := by decide +kernel
theorem dX0_removeExpired_43 : decode cX0_removeExpired 43 = .ok (.iconst 0, 1) := by decide +kernel
theorem dX0_removeExpired_44 : decode cX0_removeExpired 44 = .ok (.istore 5, 2) := by decide +kernel
theorem dX0_removeExpired_46 : decode cX0_removeExpired 46 = .ok (.aload_n 0, 1) := by decide +kernel
theorem dX0_removeExpired_47 : decode cX0_removeExpired 47 = .ok (.getfield 9, 3) := by decide +kernel
theorem dX0_removeExpired_50 : decode cX0_removeExpired 50 = .ok (.iload_n 1, 1) := by decide +kernel
theorem dX0_removeExpired_51 : decode cX0_removeExpired 51 = .ok (.invokevirtual 82, 3) := by decide +kernel
theorem dX0_removeExpired_54 : decode cX0_removeExpired 54 = .ok (.iconst 1, 1) := by decide +kernel
theorem dX0_removeExpired_55 : decode cX0_removeExpired 55 = .ok (.isub, 1) := by decide +kernel
theorem dX0_removeExpired_56 : decode cX0_removeExpired 56 = .ok (.istore 6, 2) := by decide +kernel
theorem dX0_removeExpired_58 : decode cX0_removeExpired 58 = .ok (.iload 6, 2) := by decide +kernel
theorem dX0_removeExpired_60 : decode cX0_removeExpired 60 = .ok (.iload_n 2, 1) := by decide +kernel
theorem dX0_removeExpired_61 : decode cX0_removeExpired 61 = .ok (.if_icmp .lt 57, 3) := by decide +kernel
theorem dX0_removeExpired_64 : decode cX0_removeExpired 64 = .ok (.aload_n 0, 1) := by decide +kernel
theorem dX0_removeExpired_65 : decode cX0_removeExpired 65 = .ok (.getfield 9, 3) := by decide +kernel
theorem dX0_removeExpired_68 : decode cX0_removeExpired 68 = .ok (.iload_n 1, 1) := by decide +kernel
theorem dX0_removeExpired_69 : decode cX0_removeExpired 69 = .ok (.iload 6, 2) := by decide +kernel
theorem dX0_removeExpired_71 : decode cX0_removeExpired 71 = .ok (.invokevirtual 95, 3) := by decide +kernel
theorem dX0_removeExpired_74 : decode cX0_removeExpired 74 = .ok (.istore 7, 2) := by decide +kernel
theorem dX0_removeExpired_76 : decode cX0_removeExpired 76 = .ok (.aload_n 0, 1) := by decide +kernel
theorem dX0_removeExpired_77 : decode cX0_removeExpired 77 = .ok (.getfield 9, 3) := by decide +kernel
theorem dX0_removeExpired_80 : decode cX0_removeExpired 80 = .ok (.iload 7, 2) := by decide +kernel
theorem dX0_removeExpired_82 : decode cX0_removeExpired 82 = .ok (.invokevirtual 66, 3) := by decide +kernel
theorem dX0_removeExpired_85 : decode cX0_removeExpired 85 = .ok (.iload_n 3, 1) := by decide +kernel
theorem dX0_removeExpired_86 : decode cX0_removeExpired 86 = .ok (.irem, 1) := by decide +kernel
theorem dX0_removeExpired_87 : decode cX0_removeExpired 87 = .ok (.ifCond .eq 25, 3) := by decide +kernel
theorem dX0_removeExpired_90 : decode cX0_removeExpired 90 = .ok (.aload_n 0, 1) := by decide +kernel
theorem dX0_removeExpired_91 : decode cX0_removeExpired 91 = .ok (.getfield 9, 3) := by decide +kernel
theorem dX0_removeExpired_94 : decode cX0_removeExpired 94 = .ok (.iload 7, 2) := by decide +kernel
theorem dX0_removeExpired_96 : decode cX0_removeExpired 96 = .ok (.invokevirtual 76, 3) := by decide +kernel
theorem dX0_removeExpired_99 : decode cX0_removeExpired 99 = .ok (.ifCond .eq 13, 3) := by decide +kernel
theorem dX0_removeExpired_102 : decode cX0_removeExpired 102 = .ok (.aload_n 0, 1) := by decide +kernel
theorem dX0_removeExpired_103 : decode cX0_removeExpired 103 = .ok (.iload 7, 2) := by decide +kernel
theorem dX0_removeExpired_105 : decode cX0_removeExpired 105 = .ok (.invokevirtual 79, 3) := by decide +kernel
theorem dX0_removeExpired_108 : decode cX0_removeExpired 108 = .ok (.pop, 1) := by decide +kernel
theorem dX0_removeExpired_109 : decode cX0_removeExpired 109 = .ok (.iinc 5 1, 3) := by decide +kernel
theorem dX0_removeExpired_112 : decode cX0_removeExpired 112 = .ok (.iinc 6 (-1), 3) := by decide +kernel
theorem dX0_removeExpired_115 : decode cX0_removeExpired 115 = .ok (.goto (-57), 3) := by decide +kernel
theorem dX0_removeExpired_118 : decode cX0_removeExpired 118 = .ok (.iload 5, 2) := by decide +kernel
theorem dX0_removeExpired_120 : decode cX0_removeExpired 120 = .ok (.ireturn, 1) := by decide +kernel
set_option maxRecDepth 20000 in
theorem ggX0_carryOver_X5_size : GoodIn wsX0_carryOver wsX5_size := goodIn_r _ [5, 6, 83, 84, 85] (by decide +kernel) (by decide +kernel)
set_option maxRecDepth 20000 in
theorem gX0_carryOver_X5_size : GoodIn wsX0_carryOver (wsV RX0 98 RX5 yX5_size wsX5_size) := goodIn_app (goodIn_of _ (by decide +kernel)) ggX0_carryOver_X5_size
set_option maxRecDepth 20000 in
theorem ggX0_carryOver_X5_at : GoodIn wsX0_carryOver wsX5_at := goodIn_r _ [10, 11, 12, 13, 14, 4, 15, 6, 83, 84, 85] (by decide +kernel) (by decide +kernel)
set_option maxRecDepth 20000 in
theorem gX0_carryOver_X5_at : GoodIn wsX0_carryOver (wsV RX0 103 RX5 yX5_at wsX5_at) := goodIn_app (goodIn_of _ (by decide +kernel)) ggX0_carryOver_X5_at
set_option maxRecDepth 20000 in
theorem ggX0_carryOver_X0_carryPair : GoodIn wsX0_carryOver wsX0_carryPair := goodIn_r _ [20, 21, 22, 23, 24, 25, 19, 26, 27, 28, 29, 30, 31, 32, 33, 34, 35, 36, 37, 38, 39, 40, 41, 42, 43, 44, 45, 46, 47, 48, 49, 50, 51, 52, 53, 54, 55, 56, 57, 58, 59, 60, 61, 62, 63, 64, 65, 66, 67, 68, 69, 70, 71, 72, 73, 74, 75, 76, 77, 78, 79, 80, 81, 82, 86, 87, 88, 89, 90, 91, 92, 93, 94, 95, 96, 97] (by decide +kernel) (by decide +kernel)
set_option maxRecDepth 20000 in
theorem gX0_carryOver_X0_carryPair : GoodIn wsX0_carryOver (wsV RX0 107 RX0 yX0_carryPair wsX0_carryPair) := goodIn_app (goodIn_of _ (by decide +kernel)) ggX0_carryOver_X0_carryPair
theorem dX0_carryOver_0 : decode cX0_carryOver 0 = .ok (.aload_n 2, 1) := by decide +kernel
theorem dX0_carryOver_1 : decode cX0_carryOver 1 = .ok (.invokevirtual 98, 3) := by decide +kernel
theorem dX0_carryOver_4 : decode cX0_carryOver 4 = .ok (.istore_n 3, 1) := by decide +kernel
theorem dX0_carryOver_5 : decode cX0_carryOver 5 = .ok (.iconst 0, 1) := by decide +kernel
theorem dX0_carryOver_6 : decode cX0_carryOver 6 = .ok (.istore 4, 2) := by decide +kernel
theorem dX0_carryOver_8 : decode cX0_carryOver 8 = .ok (.iconst 0, 1) := by decide +kernel
theorem dX0_carryOver_9 : decode cX0_carryOver 9 = .ok (.istore 5, 2) := by decide +kernel
theorem dX0_carryOver_11 : decode cX0_carryOver 11 = .ok (.iload 5, 2) := by decide +kernel
theorem dX0_carryOver_13 : decode cX0_carryOver 13 = .ok (.iconst 1, 1) := by decide +kernel
theorem dX0_carryOver_14 : decode cX0_carryOver 14 = .ok (.iadd, 1) := by decide +kernel
theorem dX0_carryOver_15 : decode cX0_carryOver 15 = .ok (.iload_n 3, 1) := by decide +kernel
theorem dX0_carryOver_16 : decode cX0_carryOver 16 = .ok (.if_icmp .ge 34, 3) := by decide +kernel
theorem dX0_carryOver_19 : decode cX0_carryOver 19 = .ok (.aload_n 0, 1) := by decide +kernel
theorem dX0_carryOver_20 : decode cX0_carryOver 20 = .ok (.iload_n 1, 1) := by decide +kernel
theorem dX0_carryOver_21 : decode cX0_carryOver 21 = .ok (.aload_n 2, 1) := by decide +kernel
theorem dX0_carryOver_22 : decode cX0_carryOver 22 = .ok (.iload 5, 2) := by decide +kernel
theorem dX0_carryOver_24 : decode cX0_carryOver 24 = .ok (.invokevirtual 103, 3) := by decide +kernel
theorem dX0_carryOver_27 : decode cX0_carryOver 27 = .ok (.aload_n 2, 1) := by decide +kernel
theorem dX0_carryOver_28 : decode cX0_carryOver 28 = .ok (.iload 5, 2) := by decide +kernel
theorem dX0_carryOver_30 : decode cX0_carryOver 30 = .ok (.iconst 1, 1) := by decide +kernel
theorem dX0_carryOver_31 : decode cX0_carryOver 31 = .ok (.iadd, 1) := by decide +kernel
theorem dX0_carryOver_32 : decode cX0_carryOver 32 = .ok (.invokevirtual 103, 3) := by decide +kernel
theorem dX0_carryOver_35 : decode cX0_carryOver 35 = .ok (.invokevirtual 107, 3) := by decide +kernel
theorem dX0_carryOver_38 : decode cX0_carryOver 38 = .ok (.ifCond .eq 6, 3) := by decide +kernel
theorem dX0_carryOver_41 : decode cX0_carryOver 41 = .ok (.iinc 4 1, 3) := by decide +kernel
theorem dX0_carryOver_44 : decode cX0_carryOver 44 = .ok (.iinc 5 2, 3) := by decide +kernel
theorem dX0_carryOver_47 : decode cX0_carryOver 47 = .ok (.goto (-36), 3) := by decide +kernel
theorem dX0_carryOver_50 : decode cX0_carryOver 50 = .ok (.iload_n 3, 1) := by decide +kernel
theorem dX0_carryOver_51 : decode cX0_carryOver 51 = .ok (.iconst 2, 1) := by decide +kernel
theorem dX0_carryOver_52 : decode cX0_carryOver 52 = .ok (.irem, 1) := by decide +kernel
theorem dX0_carryOver_53 : decode cX0_carryOver 53 = .ok (.ifCond .ne 8, 3) := by decide +kernel
theorem dX0_carryOver_56 : decode cX0_carryOver 56 = .ok (.iload 4, 2) := by decide +kernel
theorem dX0_carryOver_58 : decode cX0_carryOver 58 = .ok (.goto 5, 3) := by decide +kernel
theorem dX0_carryOver_61 : decode cX0_carryOver 61 = .ok (.bipush (-12), 2) := by decide +kernel
theorem dX0_carryOver_63 : decode cX0_carryOver 63 = .ok (.ireturn, 1) := by decide +kernel
set_option maxRecDepth 20000 in
theorem ggX0_carryPair_X0_emptySlot : GoodIn wsX0_carryPair wsX0_emptySlot := goodIn_r _ [7, 8, 9, 10, 11, 12, 13, 14, 15, 16, 17, 18, 19, 20, 21, 22, 23, 24, 25, 26, 27, 28, 29, 30, 31, 32, 33, 34, 35, 36, 37, 38, 39, 64, 65, 66, 67, 68, 69, 70, 71, 72, 73, 74, 75] (by decide +kernel) (by decide +kernel)
set_option maxRecDepth 20000 in
theorem gX0_carryPair_X0_emptySlot : GoodIn wsX0_carryPair (wsV RX0 40 RX0 yX0_emptySlot wsX0_emptySlot) := goodIn_app (goodIn_of _ (by decide +kernel)) ggX0_carryPair_X0_emptySlot
set_option maxRecDepth 20000 in
theorem ggX0_carryPair_X0_fillSlot : GoodIn wsX0_carryPair wsX0_fillSlot := goodIn_r _ [43, 8, 44, 45, 46, 12, 47, 48, 49, 50, 51, 52, 53, 10, 11, 13, 14, 54, 55, 56, 57, 38, 9, 58, 59, 60, 61, 62, 23, 63, 3, 4, 5, 6, 7, 15, 16, 17, 18, 19, 20, 21, 22, 24, 25, 26, 27, 28, 29, 30, 31, 32, 33, 34, 35, 36, 37, 39, 64, 65, 66, 67, 68, 69, 70, 71, 72, 73, 74, 75] (by decide +kernel) (by decide +kernel)
set_option maxRecDepth 20000 in
theorem gX0_carryPair_X0_fillSlot : GoodIn wsX0_carryPair (wsV RX0 33 RX0 yX0_fillSlot wsX0_fillSlot) := goodIn_app (goodIn_of _ (by decide +kernel)) ggX0_carryPair_X0_fillSlot
theorem dX0_carryPair_0 : decode cX0_carryPair 0 = .ok (.lload_n 2, 1) := by decide +kernel
theorem dX0_carryPair_1 : decode cX0_carryPair 1 = .ok (.lconst 0, 1) := by decide +kernel
theorem dX0_carryPair_2 : decode cX0_carryPair 2 = .ok (.lcmp, 1) := by decide +kernel
theorem dX0_carryPair_3 : decode cX0_carryPair 3 = .ok (.ifCond .lt 27, 3) := by decide +kernel
theorem dX0_carryPair_6 : decode cX0_carryPair 6 = .ok (.lload_n 2, 1) := by decide +kernel
theorem dX0_carryPair_7 : decode cX0_carryPair 7 = .ok (.ldc2_w 111, 3) := by decide +kernel
theorem dX0_carryPair_10 : decode cX0_carryPair 10 = .ok (.lcmp, 1) := by decide +kernel
theorem dX0_carryPair_11 : decode cX0_carryPair 11 = .ok (.ifCond .ge 19, 3) := by decide +kernel
theorem dX0_carryPair_14 : decode cX0_carryPair 14 = .ok (.lload 4, 2) := by decide +kernel
theorem dX0_carryPair_16 : decode cX0_carryPair 16 = .ok (.lconst 0, 1) := by decide +kernel
theorem dX0_carryPair_17 : decode cX0_carryPair 17 = .ok (.lcmp, 1) := by decide +kernel
theorem dX0_carryPair_18 : decode cX0_carryPair 18 = .ok (.ifCond .lt 12, 3) := by decide +kernel
theorem dX0_carryPair_21 : decode cX0_carryPair 21 = .ok (.lload 4, 2) := by decide +kernel
theorem dX0_carryPair_23 : decode cX0_carryPair 23 = .ok (.ldc2_w 113, 3) := by decide +kernel
theorem dX0_carryPair_26 : decode cX0_carryPair 26 = .ok (.lcmp, 1) := by decide +kernel
theorem dX0_carryPair_27 : decode cX0_carryPair 27 = .ok (.ifCond .le 5, 3) := by decide +kernel
theorem dX0_carryPair_30 : decode cX0_carryPair 30 = .ok (.iconst 0, 1) := by decide +kernel
theorem dX0_carryPair_31 : decode cX0_carryPair 31 = .ok (.ireturn, 1) := by decide +kernel
theorem dX0_carryPair_32 : decode cX0_carryPair 32 = .ok (.lload 4, 2) := by decide +kernel
theorem dX0_carryPair_34 : decode cX0_carryPair 34 = .ok (.lconst 0, 1) := by decide +kernel
theorem dX0_carryPair_35 : decode cX0_carryPair 35 = .ok (.lcmp, 1) := by decide +kernel
theorem dX0_carryPair_36 : decode cX0_carryPair 36 = .ok (.ifCond .ne 13, 3) := by decide +kernel
theorem dX0_carryPair_39 : decode cX0_carryPair 39 = .ok (.aload_n 0, 1) := by decide +kernel
theorem dX0_carryPair_40 : decode cX0_carryPair 40 = .ok (.iload_n 1, 1) := by decide +kernel
theorem dX0_carryPair_41 : decode cX0_carryPair 41 = .ok (.lload_n 2, 1) := by decide +kernel
theorem dX0_carryPair_42 : decode cX0_carryPair 42 = .ok (.l2i, 1) := by decide +kernel
theorem dX0_carryPair_43 : decode cX0_carryPair 43 = .ok (.invokevirtual 40, 3) := by decide +kernel
theorem dX0_carryPair_46 : decode cX0_carryPair 46 = .ok (.pop, 1) := by decide +kernel
theorem dX0_carryPair_47 : decode cX0_carryPair 47 = .ok (.iconst 1, 1) := by decide +kernel
theorem dX0_carryPair_48 : decode cX0_carryPair 48 = .ok (.ireturn, 1) := by decide +kernel
theorem dX0_carryPair_49 : decode cX0_carryPair 49 = .ok (.aload_n 0, 1) := by decide +kernel
theorem dX0_carryPair_50 : decode cX0_carryPair 50 = .ok (.iload_n 1, 1) := by decide +kernel
theorem dX0_carryPair_51 : decode cX0_carryPair 51 = .ok (.lload_n 2, 1) := by decide +kernel
theorem dX0_carryPair_52 : decode cX0_carryPair 52 = .ok (.l2i, 1) := by decide +kernel
theorem dX0_carryPair_53 : decode cX0_carryPair 53 = .ok (.lload 4, 2) := by decide +kernel
theorem dX0_carryPair_55 : decode cX0_carryPair 55 = .ok (.l2i, 1) := by decide +kernel
theorem dX0_carryPair_56 : decode cX0_carryPair 56 = .ok (.invokevirtual 33, 3) := by decide +kernel
theorem dX0_carryPair_59 : decode cX0_carryPair 59 = .ok (.bipush (-4), 2) := by decide +kernel
theorem dX0_carryPair_61 : decode cX0_carryPair 61 = .ok (.if_icmp .eq 7, 3) := by decide +kernel
theorem dX0_carryPair_64 : decode cX0_carryPair 64 = .ok (.iconst 1, 1) := by decide +kernel
theorem dX0_carryPair_65 : decode cX0_carryPair 65 = .ok (.goto 4, 3) := by decide +kernel
theorem dX0_carryPair_68 : decode cX0_carryPair 68 = .ok (.iconst 0, 1) := by decide +kernel
theorem dX0_carryPair_69 : decode cX0_carryPair 69 = .ok (.ireturn, 1) := by decide +kernel
set_option maxRecDepth 20000 in
theorem ggX0_fillSlot_X4_quotaOf : GoodIn wsX0_fillSlot wsX4_quotaOf := goodIn_r _ [6, 7, 59, 60, 61, 62, 63, 64, 65, 66, 67, 68, 69] (by decide +kernel) (by decide +kernel)
set_option maxRecDepth 20000 in
theorem gX0_fillSlot_X4_quotaOf : GoodIn wsX0_fillSlot (wsV RX0 115 RX4 yX4_quotaOf wsX4_quotaOf) := goodIn_app (goodIn_of _ (by decide +kernel)) ggX0_fillSlot_X4_quotaOf
set_option maxRecDepth 20000 in
theorem ggX0_fillSlot_X4_spaceOf : GoodIn wsX0_fillSlot wsX4_spaceOf := goodIn_r _ [11, 12, 13, 14, 5, 15, 16, 17, 18, 19, 20, 21, 59, 60, 61, 62, 63, 64, 65, 66, 67, 68, 69] (by decide +kernel) (by decide +kernel)
set_option maxRecDepth 20000 in
theorem gX0_fillSlot_X4_spaceOf : GoodIn wsX0_fillSlot (wsV RX0 118 RX4 yX4_spaceOf wsX4_spaceOf) := goodIn_app (goodIn_of _ (by decide +kernel)) ggX0_fillSlot_X4_spaceOf
set_option maxRecDepth 20000 in
theorem ggX0_fillSlot_X4_blockIn : GoodIn wsX0_fillSlot wsX4_blockIn := goodIn_r _ [15, 16, 59, 60, 61, 62, 63, 64, 65, 66, 67, 68, 69] (by decide +kernel) (by decide +kernel)
set_option maxRecDepth 20000 in
theorem gX0_fillSlot_X4_blockIn : GoodIn wsX0_fillSlot (wsV RX0 37 RX4 yX4_blockIn wsX4_blockIn) := goodIn_app (goodIn_of _ (by decide +kernel)) ggX0_fillSlot_X4_blockIn
set_option maxRecDepth 20000 in
theorem ggX0_fillSlot_X4_sizeOf : GoodIn wsX0_fillSlot wsX4_sizeOf := goodIn_r _ [20, 21, 59, 60, 61, 62, 63, 64, 65, 66, 67, 68, 69] (by decide +kernel) (by decide +kernel)
set_option maxRecDepth 20000 in
theorem gX0_fillSlot_X4_sizeOf : GoodIn wsX0_fillSlot (wsV RX0 121 RX4 yX4_sizeOf wsX4_sizeOf) := goodIn_app (goodIn_of _ (by decide +kernel)) ggX0_fillSlot_X4_sizeOf
set_option maxRecDepth 20000 in
theorem ggX0_fillSlot_X4_newBlock : GoodIn wsX0_fillSlot wsX4_newBlock := goodIn_r _ [27, 21, 28, 29, 59, 60, 61, 62, 63, 64, 65, 66, 67, 68, 69] (by decide +kernel) (by decide +kernel)
set_option maxRecDepth 20000 in
theorem gX0_fillSlot_X4_newBlock : GoodIn wsX0_fillSlot (wsV RX0 124 RX4 yX4_newBlock wsX4_newBlock) := goodIn_app (goodIn_of _ (by decide +kernel)) ggX0_fillSlot_X4_newBlock
set_option maxRecDepth 20000 in
theorem ggX0_fillSlot_X0_emptySlot : GoodIn wsX0_fillSlot wsX0_emptySlot := goodIn_r _ [34, 1, 22, 13, 14, 5, 15, 16, 35, 36, 37, 38, 39, 40, 41, 42, 28, 43, 44, 45, 46, 47, 48, 49, 50, 51, 52, 53, 54, 55, 56, 21, 57, 58, 59, 60, 61, 62, 63, 64, 65, 66, 67, 68, 69] (by decide +kernel) (by decide +kernel)
set_option maxRecDepth 20000 in
theorem gX0_fillSlot_X0_emptySlot : GoodIn wsX0_fillSlot (wsV RX0 40 RX0 yX0_emptySlot wsX0_emptySlot) := goodIn_app (goodIn_of _ (by decide +kernel)) ggX0_fillSlot_X0_emptySlot
set_option maxRecDepth 20000 in
theorem ggX0_fillSlot_X4_setSlot : GoodIn wsX0_fillSlot wsX4_setSlot := goodIn_r _ [38, 16, 59, 60, 61, 62, 63, 64, 65, 66, 67, 68, 69] (by decide +kernel) (by decide +kernel)
set_option maxRecDepth 20000 in
theorem gX0_fillSlot_X4_setSlot : GoodIn wsX0_fillSlot (wsV RX0 127 RX4 yX4_setSlot wsX4_setSlot) := goodIn_app (goodIn_of _ (by decide +kernel)) ggX0_fillSlot_X4_setSlot
theorem dX0_fillSlot_0 : decode cX0_fillSlot 0 = .ok (.aload_n 0, 1) := by decide +kernel
theorem dX0_fillSlot_1 : decode cX0_fillSlot 1 = .ok (.getfield 9, 3) := by decide +kernel
theorem dX0_fillSlot_4 : decode cX0_fillSlot 4 = .ok (.iload_n 1, 1) := by decide +kernel
theorem dX0_fillSlot_5 : decode cX0_fillSlot 5 = .ok (.invokevirtual 115, 3) := by decide +kernel
theorem dX0_fillSlot_8 : decode cX0_fillSlot 8 = .ok (.istore 4, 2) := by decide +kernel
theorem dX0_fillSlot_10 : decode cX0_fillSlot 10 = .ok (.aload_n 0, 1) := by decide +kernel
theorem dX0_fillSlot_11 : decode cX0_fillSlot 11 = .ok (.getfield 9, 3) := by decide +kernel
theorem dX0_fillSlot_14 : decode cX0_fillSlot 14 = .ok (.iload_n 1, 1) := by decide +kernel
theorem dX0_fillSlot_15 : decode cX0_fillSlot 15 = .ok (.invokevirtual 118, 3) := by decide +kernel
theorem dX0_fillSlot_18 : decode cX0_fillSlot 18 = .ok (.aload_n 0, 1) := by decide +kernel
theorem dX0_fillSlot_19 : decode cX0_fillSlot 19 = .ok (.getfield 9, 3) := by decide +kernel
theorem dX0_fillSlot_22 : decode cX0_fillSlot 22 = .ok (.aload_n 0, 1) := by decide +kernel
theorem dX0_fillSlot_23 : decode cX0_fillSlot 23 = .ok (.getfield 9, 3) := by decide +kernel
theorem dX0_fillSlot_26 : decode cX0_fillSlot 26 = .ok (.iload_n 1, 1) := by decide +kernel
theorem dX0_fillSlot_27 : decode cX0_fillSlot 27 = .ok (.iload_n 2, 1) := by decide +kernel
theorem dX0_fillSlot_28 : decode cX0_fillSlot 28 = .ok (.invokevirtual 37, 3) := by decide +kernel
theorem dX0_fillSlot_31 : decode cX0_fillSlot 31 = .ok (.invokevirtual 121, 3) := by decide +kernel
theorem dX0_fillSlot_34 : decode cX0_fillSlot 34 = .ok (.i2l, 1) := by decide +kernel
theorem dX0_fillSlot_35 : decode cX0_fillSlot 35 = .ok (.lsub, 1) := by decide +kernel
theorem dX0_fillSlot_36 : decode cX0_fillSlot 36 = .ok (.iload_n 3, 1) := by decide +kernel
theorem dX0_fillSlot_37 : decode cX0_fillSlot 37 = .ok (.i2l, 1) := by decide +kernel
theorem dX0_fillSlot_38 : decode cX0_fillSlot 38 = .ok (.ladd, 1) := by decide +kernel
theorem dX0_fillSlot_39 : decode cX0_fillSlot 39 = .ok (.lstore 5, 2) := by decide +kernel
theorem dX0_fillSlot_41 : decode cX0_fillSlot 41 = .ok (.iload 4, 2) := by decide +kernel
theorem dX0_fillSlot_43 : decode cX0_fillSlot 43 = .ok (.iconst (-1), 1) := by decide +kernel
theorem dX0_fillSlot_44 : decode cX0_fillSlot 44 = .ok (.if_icmp .eq 15, 3) := by decide +kernel
theorem dX0_fillSlot_47 : decode cX0_fillSlot 47 = .ok (.lload 5, 2) := by decide +kernel
theorem dX0_fillSlot_49 : decode cX0_fillSlot 49 = .ok (.iload 4, 2) := by decide +kernel
theorem dX0_fillSlot_51 : decode cX0_fillSlot 51 = .ok (.i2l, 1) := by decide +kernel
theorem dX0_fillSlot_52 : decode cX0_fillSlot 52 = .ok (.lcmp, 1) := by decide +kernel
theorem dX0_fillSlot_53 : decode cX0_fillSlot 53 = .ok (.ifCond .le 6, 3) := by decide +kernel
theorem dX0_fillSlot_56 : decode cX0_fillSlot 56 = .ok (.bipush (-4), 2) := by decide +kernel
theorem dX0_fillSlot_58 : decode cX0_fillSlot 58 = .ok (.ireturn, 1) := by decide +kernel
theorem dX0_fillSlot_59 : decode cX0_fillSlot 59 = .ok (.aload_n 0, 1) := by decide +kernel
theorem dX0_fillSlot_60 : decode cX0_fillSlot 60 = .ok (.getfield 9, 3) := by decide +kernel
theorem dX0_fillSlot_63 : decode cX0_fillSlot 63 = .ok (.iload_n 3, 1) := by decide +kernel
theorem dX0_fillSlot_64 : decode cX0_fillSlot 64 = .ok (.invokevirtual 124, 3) := by decide +kernel
theorem dX0_fillSlot_67 : decode cX0_fillSlot 67 = .ok (.istore 7, 2) := by decide +kernel
theorem dX0_fillSlot_69 : decode cX0_fillSlot 69 = .ok (.iload 7, 2) := by decide +kernel
theorem dX0_fillSlot_71 : decode cX0_fillSlot 71 = .ok (.bipush (-4), 2) := by decide +kernel
theorem dX0_fillSlot_73 : decode cX0_fillSlot 73 = .ok (.if_icmp .eq 21, 3) := by decide +kernel
theorem dX0_fillSlot_76 : decode cX0_fillSlot 76 = .ok (.aload_n 0, 1) := by decide +kernel
theorem dX0_fillSlot_77 : decode cX0_fillSlot 77 = .ok (.iload_n 1, 1) := by decide +kernel
theorem dX0_fillSlot_78 : decode cX0_fillSlot 78 = .ok (.iload_n 2, 1) := by decide +kernel
theorem dX0_fillSlot_79 : decode cX0_fillSlot 79 = .ok (.invokevirtual 40, 3) := by decide +kernel
theorem dX0_fillSlot_82 : decode cX0_fillSlot 82 = .ok (.pop, 1) := by decide +kernel
theorem dX0_fillSlot_83 : decode cX0_fillSlot 83 = .ok (.aload_n 0, 1) := by decide +kernel
theorem dX0_fillSlot_84 : decode cX0_fillSlot 84 = .ok (.getfield 9, 3) := by decide +kernel
theorem dX0_fillSlot_87 : decode cX0_fillSlot 87 = .ok (.iload_n 1, 1) := by decide +kernel
theorem dX0_fillSlot_88 : decode cX0_fillSlot 88 = .ok (.iload_n 2, 1) := by decide +kernel
theorem dX0_fillSlot_89 : decode cX0_fillSlot 89 = .ok (.iload 7, 2) := by decide +kernel
theorem dX0_fillSlot_91 : decode cX0_fillSlot 91 = .ok (.invokevirtual 127, 3) := by decide +kernel
theorem dX0_fillSlot_94 : decode cX0_fillSlot 94 = .ok (.iload 7, 2) := by decide +kernel
theorem dX0_fillSlot_96 : decode cX0_fillSlot 96 = .ok (.ireturn, 1) := by decide +kernel
set_option maxRecDepth 20000 in
theorem ggX0_emptySlot_X4_blockIn : GoodIn wsX0_emptySlot wsX4_blockIn := goodIn_r _ [6, 7, 34, 35, 36, 37, 38, 39, 40, 41, 42, 43, 44] (by decide +kernel) (by decide +kernel)
set_option maxRecDepth 20000 in
theorem gX0_emptySlot_X4_blockIn : GoodIn wsX0_emptySlot (wsV RX0 37 RX4 yX4_blockIn wsX4_blockIn) := goodIn_app (goodIn_of _ (by decide +kernel)) ggX0_emptySlot_X4_blockIn
set_option maxRecDepth 20000 in
theorem ggX0_emptySlot_X4_setSlot : GoodIn wsX0_emptySlot wsX4_setSlot := goodIn_r _ [11, 7, 34, 35, 36, 37, 38, 39, 40, 41, 42, 43, 44] (by decide +kernel) (by decide +kernel)
set_option maxRecDepth 20000 in
theorem gX0_emptySlot_X4_setSlot : GoodIn wsX0_emptySlot (wsV RX0 127 RX4 yX4_setSlot wsX4_setSlot) := goodIn_app (goodIn_of _ (by decide +kernel)) ggX0_emptySlot_X4_setSlot
set_option maxRecDepth 20000 in
theorem ggX0_emptySlot_X4_birthOf : GoodIn wsX0_emptySlot wsX4_birthOf := goodIn_r _ [15, 16, 34, 35, 36, 37, 38, 39, 40, 41, 42, 43, 44] (by decide +kernel) (by decide +kernel)
set_option maxRecDepth 20000 in
theorem gX0_emptySlot_X4_birthOf : GoodIn wsX0_emptySlot (wsV RX0 131 RX4 yX4_birthOf wsX4_birthOf) := goodIn_app (goodIn_of _ (by decide +kernel)) ggX0_emptySlot_X4_birthOf
set_option maxRecDepth 20000 in
theorem ggX0_emptySlot_X4_prevOf : GoodIn wsX0_emptySlot wsX4_prevOf := goodIn_r _ [20, 21, 34, 35, 36, 37, 38, 39, 40, 41, 42, 43, 44] (by decide +kernel) (by decide +kernel)
set_option maxRecDepth 20000 in
theorem gX0_emptySlot_X4_prevOf : GoodIn wsX0_emptySlot (wsV RX0 46 RX4 yX4_prevOf wsX4_prevOf) := goodIn_app (goodIn_of _ (by decide +kernel)) ggX0_emptySlot_X4_prevOf
set_option maxRecDepth 20000 in
theorem ggX0_emptySlot_X4_madeOf : GoodIn wsX0_emptySlot wsX4_madeOf := goodIn_r _ [25, 26, 34, 35, 36, 37, 38, 39, 40, 41, 42, 43, 44] (by decide +kernel) (by decide +kernel)
set_option maxRecDepth 20000 in
theorem gX0_emptySlot_X4_madeOf : GoodIn wsX0_emptySlot (wsV RX0 66 RX4 yX4_madeOf wsX4_madeOf) := goodIn_app (goodIn_of _ (by decide +kernel)) ggX0_emptySlot_X4_madeOf
set_option maxRecDepth 20000 in
theorem ggX0_emptySlot_X4_freeBlock : GoodIn wsX0_emptySlot wsX4_freeBlock := goodIn_r _ [30, 31, 16, 32, 34, 35, 36, 37, 38, 39, 40, 41, 42, 43, 44] (by decide +kernel) (by decide +kernel)
set_option maxRecDepth 20000 in
theorem gX0_emptySlot_X4_freeBlock : GoodIn wsX0_emptySlot (wsV RX0 134 RX4 yX4_freeBlock wsX4_freeBlock) := goodIn_app (goodIn_of _ (by decide +kernel)) ggX0_emptySlot_X4_freeBlock
theorem dX0_emptySlot_0 : decode cX0_emptySlot 0 = .ok (.aload_n 0, 1) := by decide +kernel
theorem dX0_emptySlot_1 : decode cX0_emptySlot 1 = .ok (.getfield 9, 3) := by decide +kernel
theorem dX0_emptySlot_4 : decode cX0_emptySlot 4 = .ok (.iload_n 1, 1) := by decide +kernel
theorem dX0_emptySlot_5 : decode cX0_emptySlot 5 = .ok (.iload_n 2, 1) := by decide +kernel
theorem dX0_emptySlot_6 : decode cX0_emptySlot 6 = .ok (.invokevirtual 37, 3) := by decide +kernel
theorem dX0_emptySlot_9 : decode cX0_emptySlot 9 = .ok (.istore_n 3, 1) := by decide +kernel
theorem dX0_emptySlot_10 : decode cX0_emptySlot 10 = .ok (.aload_n 0, 1) := by decide +kernel
theorem dX0_emptySlot_11 : decode cX0_emptySlot 11 = .ok (.getfield 9, 3) := by decide +kernel
theorem dX0_emptySlot_14 : decode cX0_emptySlot 14 = .ok (.iload_n 1, 1) := by decide +kernel
theorem dX0_emptySlot_15 : decode cX0_emptySlot 15 = .ok (.iload_n 2, 1) := by decide +kernel
theorem dX0_emptySlot_16 : decode cX0_emptySlot 16 = .ok (.iconst (-1), 1) := by decide +kernel
theorem dX0_emptySlot_17 : decode cX0_emptySlot 17 = .ok (.invokevirtual 127, 3) := by decide +kernel
theorem dX0_emptySlot_20 : decode cX0_emptySlot 20 = .ok (.iload_n 3, 1) := by decide +kernel
theorem dX0_emptySlot_21 : decode cX0_emptySlot 21 = .ok (.iconst (-1), 1) := by decide +kernel
theorem dX0_emptySlot_22 : decode cX0_emptySlot 22 = .ok (.if_icmp .eq 29, 3) := by decide +kernel
theorem dX0_emptySlot_25 : decode cX0_emptySlot 25 = .ok (.aload_n 0, 1) := by decide +kernel
theorem dX0_emptySlot_26 : decode cX0_emptySlot 26 = .ok (.getfield 9, 3) := by decide +kernel
theorem dX0_emptySlot_29 : decode cX0_emptySlot 29 = .ok (.iload_n 3, 1) := by decide +kernel
theorem dX0_emptySlot_30 : decode cX0_emptySlot 30 = .ok (.invokevirtual 131, 3) := by decide +kernel
theorem dX0_emptySlot_33 : decode cX0_emptySlot 33 = .ok (.aload_n 0, 1) := by decide +kernel
theorem dX0_emptySlot_34 : decode cX0_emptySlot 34 = .ok (.getfield 9, 3) := by decide +kernel
theorem dX0_emptySlot_37 : decode cX0_emptySlot 37 = .ok (.aload_n 0, 1) := by decide +kernel
theorem dX0_emptySlot_38 : decode cX0_emptySlot 38 = .ok (.getfield 9, 3) := by decide +kernel
theorem dX0_emptySlot_41 : decode cX0_emptySlot 41 = .ok (.iload_n 1, 1) := by decide +kernel
theorem dX0_emptySlot_42 : decode cX0_emptySlot 42 = .ok (.invokevirtual 46, 3) := by decide +kernel
theorem dX0_emptySlot_45 : decode cX0_emptySlot 45 = .ok (.invokevirtual 66, 3) := by decide +kernel
theorem dX0_emptySlot_48 : decode cX0_emptySlot 48 = .ok (.if_icmp .gt 5, 3) := by decide +kernel
theorem dX0_emptySlot_51 : decode cX0_emptySlot 51 = .ok (.iconst 0, 1) := by decide +kernel
theorem dX0_emptySlot_52 : decode cX0_emptySlot 52 = .ok (.ireturn, 1) := by decide +kernel
theorem dX0_emptySlot_53 : decode cX0_emptySlot 53 = .ok (.aload_n 0, 1) := by decide +kernel
theorem dX0_emptySlot_54 : decode cX0_emptySlot 54 = .ok (.getfield 9, 3) := by decide +kernel
theorem dX0_emptySlot_57 : decode cX0_emptySlot 57 = .ok (.iload_n 3, 1) := by decide +kernel
theorem dX0_emptySlot_58 : decode cX0_emptySlot 58 = .ok (.invokevirtual 134, 3) := by decide +kernel
theorem dX0_emptySlot_61 : decode cX0_emptySlot 61 = .ok (.iconst 1, 1) := by decide +kernel
theorem dX0_emptySlot_62 : decode cX0_emptySlot 62 = .ok (.ireturn, 1) := by decide +kernel
set_option maxRecDepth 20000 in
theorem ggX0_removeSnapshot_X4_firstNext : GoodIn wsX0_removeSnapshot wsX4_firstNext := goodIn_r _ [6, 7, 8, 46, 47, 48, 49, 50, 51, 52, 53, 54, 55, 56] (by decide +kernel) (by decide +kernel)
set_option maxRecDepth 20000 in
theorem gX0_removeSnapshot_X4_firstNext : GoodIn wsX0_removeSnapshot (wsV RX0 137 RX4 yX4_firstNext wsX4_firstNext) := goodIn_app (goodIn_of _ (by decide +kernel)) ggX0_removeSnapshot_X4_firstNext
set_option maxRecDepth 20000 in
theorem ggX0_removeSnapshot_X4_prevOf : GoodIn wsX0_removeSnapshot wsX4_prevOf := goodIn_r _ [12, 8, 46, 47, 48, 49, 50, 51, 52, 53, 54, 55, 56] (by decide +kernel) (by decide +kernel)
set_option maxRecDepth 20000 in
theorem gX0_removeSnapshot_X4_prevOf : GoodIn wsX0_removeSnapshot (wsV RX0 46 RX4 yX4_prevOf wsX4_prevOf) := goodIn_app (goodIn_of _ (by decide +kernel)) ggX0_removeSnapshot_X4_prevOf
set_option maxRecDepth 20000 in
theorem ggX0_removeSnapshot_X4_blockIn : GoodIn wsX0_removeSnapshot wsX4_blockIn := goodIn_r _ [16, 17, 46, 47, 48, 49, 50, 51, 52, 53, 54, 55, 56] (by decide +kernel) (by decide +kernel)
set_option maxRecDepth 20000 in
theorem gX0_removeSnapshot_X4_blockIn : GoodIn wsX0_removeSnapshot (wsV RX0 37 RX4 yX4_blockIn wsX4_blockIn) := goodIn_app (goodIn_of _ (by decide +kernel)) ggX0_removeSnapshot_X4_blockIn
set_option maxRecDepth 20000 in
theorem ggX0_removeSnapshot_X4_birthOf : GoodIn wsX0_removeSnapshot wsX4_birthOf := goodIn_r _ [21, 22, 46, 47, 48, 49, 50, 51, 52, 53, 54, 55, 56] (by decide +kernel) (by decide +kernel)
set_option maxRecDepth 20000 in
theorem gX0_removeSnapshot_X4_birthOf : GoodIn wsX0_removeSnapshot (wsV RX0 131 RX4 yX4_birthOf wsX4_birthOf) := goodIn_app (goodIn_of _ (by decide +kernel)) ggX0_removeSnapshot_X4_birthOf
set_option maxRecDepth 20000 in
theorem ggX0_removeSnapshot_X4_madeOf : GoodIn wsX0_removeSnapshot wsX4_madeOf := goodIn_r _ [26, 27, 46, 47, 48, 49, 50, 51, 52, 53, 54, 55, 56] (by decide +kernel) (by decide +kernel)
set_option maxRecDepth 20000 in
theorem gX0_removeSnapshot_X4_madeOf : GoodIn wsX0_removeSnapshot (wsV RX0 66 RX4 yX4_madeOf wsX4_madeOf) := goodIn_app (goodIn_of _ (by decide +kernel)) ggX0_removeSnapshot_X4_madeOf
set_option maxRecDepth 20000 in
theorem ggX0_removeSnapshot_X4_freeBlock : GoodIn wsX0_removeSnapshot wsX4_freeBlock := goodIn_r _ [31, 32, 22, 33, 46, 47, 48, 49, 50, 51, 52, 53, 54, 55, 56] (by decide +kernel) (by decide +kernel)
set_option maxRecDepth 20000 in
theorem gX0_removeSnapshot_X4_freeBlock : GoodIn wsX0_removeSnapshot (wsV RX0 134 RX4 yX4_freeBlock wsX4_freeBlock) := goodIn_app (goodIn_of _ (by decide +kernel)) ggX0_removeSnapshot_X4_freeBlock
set_option maxRecDepth 20000 in
theorem ggX0_removeSnapshot_X4_setPrev : GoodIn wsX0_removeSnapshot wsX4_setPrev := goodIn_r _ [37, 8, 46, 47, 48, 49, 50, 51, 52, 53, 54, 55, 56] (by decide +kernel) (by decide +kernel)
set_option maxRecDepth 20000 in
theorem gX0_removeSnapshot_X4_setPrev : GoodIn wsX0_removeSnapshot (wsV RX0 50 RX4 yX4_setPrev wsX4_setPrev) := goodIn_app (goodIn_of _ (by decide +kernel)) ggX0_removeSnapshot_X4_setPrev
set_option maxRecDepth 20000 in
theorem ggX0_removeSnapshot_X4_dropThing : GoodIn wsX0_removeSnapshot wsX4_dropThing := goodIn_r _ [41, 7, 27, 8, 42, 43, 44, 17, 46, 47, 48, 49, 50, 51, 52, 53, 54, 55, 56] (by decide +kernel) (by decide +kernel)
set_option maxRecDepth 20000 in
theorem gX0_removeSnapshot_X4_dropThing : GoodIn wsX0_removeSnapshot (wsV RX0 85 RX4 yX4_dropThing wsX4_dropThing) := goodIn_app (goodIn_of _ (by decide +kernel)) ggX0_removeSnapshot_X4_dropThing
theorem dX0_removeSnapshot_0 : decode cX0_removeSnapshot 0 = .ok (.aload_n 0, 1) := by decide +kernel
theorem dX0_removeSnapshot_1 : decode cX0_removeSnapshot 1 = .ok (.getfield 9, 3) := by decide +kernel
theorem dX0_removeSnapshot_4 : decode cX0_removeSnapshot 4 = .ok (.iload_n 1, 1) := by decide +kernel
theorem dX0_removeSnapshot_5 : decode cX0_removeSnapshot 5 = .ok (.invokevirtual 137, 3) := by decide +kernel
theorem dX0_removeSnapshot_8 : decode cX0_removeSnapshot 8 = .ok (.istore_n 2, 1) := by decide +kernel
theorem dX0_removeSnapshot_9 : decode cX0_removeSnapshot 9 = .ok (.aload_n 0, 1) := by decide +kernel
theorem dX0_removeSnapshot_10 : decode cX0_removeSnapshot 10 = .ok (.getfield 9, 3) := by decide +kernel
theorem dX0_removeSnapshot_13 : decode cX0_removeSnapshot 13 = .ok (.iload_n 1, 1) := by decide +kernel
theorem dX0_removeSnapshot_14 : decode cX0_removeSnapshot 14 = .ok (.invokevirtual 46, 3) := by decide +kernel
theorem dX0_removeSnapshot_17 : decode cX0_removeSnapshot 17 = .ok (.istore_n 3, 1) := by decide +kernel
theorem dX0_removeSnapshot_18 : decode cX0_removeSnapshot 18 = .ok (.iconst 0, 1) := by decide +kernel
theorem dX0_removeSnapshot_19 : decode cX0_removeSnapshot 19 = .ok (.istore 4, 2) := by decide +kernel
theorem dX0_removeSnapshot_21 : decode cX0_removeSnapshot 21 = .ok (.iconst 0, 1) := by decide +kernel
theorem dX0_removeSnapshot_22 : decode cX0_removeSnapshot 22 = .ok (.istore 5, 2) := by decide +kernel
theorem dX0_removeSnapshot_24 : decode cX0_removeSnapshot 24 = .ok (.iload 5, 2) := by decide +kernel
theorem dX0_removeSnapshot_26 : decode cX0_removeSnapshot 26 = .ok (.bipush 12, 2) := by decide +kernel
theorem dX0_removeSnapshot_28 : decode cX0_removeSnapshot 28 = .ok (.if_icmp .ge 86, 3) := by decide +kernel
theorem dX0_removeSnapshot_31 : decode cX0_removeSnapshot 31 = .ok (.aload_n 0, 1) := by decide +kernel
theorem dX0_removeSnapshot_32 : decode cX0_removeSnapshot 32 = .ok (.getfield 9, 3) := by decide +kernel
theorem dX0_removeSnapshot_35 : decode cX0_removeSnapshot 35 = .ok (.iload_n 1, 1) := by decide +kernel
theorem dX0_removeSnapshot_36 : decode cX0_removeSnapshot 36 = .ok (.iload 5, 2) := by decide +kernel
theorem dX0_removeSnapshot_38 : decode cX0_removeSnapshot 38 = .ok (.invokevirtual 37, 3) := by decide +kernel
theorem dX0_removeSnapshot_41 : decode cX0_removeSnapshot 41 = .ok (.istore 6, 2) := by decide +kernel
theorem dX0_removeSnapshot_43 : decode cX0_removeSnapshot 43 = .ok (.iload 6, 2) := by decide +kernel
theorem dX0_removeSnapshot_45 : decode cX0_removeSnapshot 45 = .ok (.iconst (-1), 1) := by decide +kernel
theorem dX0_removeSnapshot_46 : decode cX0_removeSnapshot 46 = .ok (.if_icmp .eq 22, 3) := by decide +kernel
theorem dX0_removeSnapshot_49 : decode cX0_removeSnapshot 49 = .ok (.iload 6, 2) := by decide +kernel
theorem dX0_removeSnapshot_51 : decode cX0_removeSnapshot 51 = .ok (.aload_n 0, 1) := by decide +kernel
theorem dX0_removeSnapshot_52 : decode cX0_removeSnapshot 52 = .ok (.getfield 9, 3) := by decide +kernel
theorem dX0_removeSnapshot_55 : decode cX0_removeSnapshot 55 = .ok (.iload_n 2, 1) := by decide +kernel
theorem dX0_removeSnapshot_56 : decode cX0_removeSnapshot 56 = .ok (.iload 5, 2) := by decide +kernel
theorem dX0_removeSnapshot_58 : decode cX0_removeSnapshot 58 = .ok (.invokevirtual 37, 3) := by decide +kernel
theorem dX0_removeSnapshot_61 : decode cX0_removeSnapshot 61 = .ok (.if_icmp .eq 7, 3) := by decide +kernel
theorem dX0_removeSnapshot_64 : decode cX0_removeSnapshot 64 = .ok (.iconst 1, 1) := by decide +kernel
theorem dX0_removeSnapshot_65 : decode cX0_removeSnapshot 65 = .ok (.goto 4, 3) := by decide +kernel
theorem dX0_removeSnapshot_68 : decode cX0_removeSnapshot 68 = .ok (.iconst 0, 1) := by decide +kernel
theorem dX0_removeSnapshot_69 : decode cX0_removeSnapshot 69 = .ok (.istore 7, 2) := by decide +kernel
theorem dX0_removeSnapshot_71 : decode cX0_removeSnapshot 71 = .ok (.iload 7, 2) := by decide +kernel
theorem dX0_removeSnapshot_73 : decode cX0_removeSnapshot 73 = .ok (.ifCond .eq 35, 3) := by decide +kernel
theorem dX0_removeSnapshot_76 : decode cX0_removeSnapshot 76 = .ok (.aload_n 0, 1) := by decide +kernel
theorem dX0_removeSnapshot_77 : decode cX0_removeSnapshot 77 = .ok (.getfield 9, 3) := by decide +kernel
theorem dX0_removeSnapshot_80 : decode cX0_removeSnapshot 80 = .ok (.iload 6, 2) := by decide +kernel
theorem dX0_removeSnapshot_82 : decode cX0_removeSnapshot 82 = .ok (.invokevirtual 131, 3) := by decide +kernel
theorem dX0_removeSnapshot_85 : decode cX0_removeSnapshot 85 = .ok (.aload_n 0, 1) := by decide +kernel
theorem dX0_removeSnapshot_86 : decode cX0_removeSnapshot 86 = .ok (.getfield 9, 3) := by decide +kernel
theorem dX0_removeSnapshot_89 : decode cX0_removeSnapshot 89 = .ok (.iload_n 3, 1) := by decide +kernel
theorem dX0_removeSnapshot_90 : decode cX0_removeSnapshot 90 = .ok (.invokevirtual 66, 3) := by decide +kernel
theorem dX0_removeSnapshot_93 : decode cX0_removeSnapshot 93 = .ok (.if_icmp .le 15, 3) := by decide +kernel
theorem dX0_removeSnapshot_96 : decode cX0_removeSnapshot 96 = .ok (.aload_n 0, 1) := by decide +kernel
theorem dX0_removeSnapshot_97 : decode cX0_removeSnapshot 97 = .ok (.getfield 9, 3) := by decide +kernel
theorem dX0_removeSnapshot_100 : decode cX0_removeSnapshot 100 = .ok (.iload 6, 2) := by decide +kernel
theorem dX0_removeSnapshot_102 : decode cX0_removeSnapshot 102 = .ok (.invokevirtual 134, 3) := by decide +kernel
theorem dX0_removeSnapshot_105 : decode cX0_removeSnapshot 105 = .ok (.iinc 4 1, 3) := by decide +kernel
theorem dX0_removeSnapshot_108 : decode cX0_removeSnapshot 108 = .ok (.iinc 5 1, 3) := by decide +kernel
theorem dX0_removeSnapshot_111 : decode cX0_removeSnapshot 111 = .ok (.goto (-87), 3) := by decide +kernel
theorem dX0_removeSnapshot_114 : decode cX0_removeSnapshot 114 = .ok (.aload_n 0, 1) := by decide +kernel
theorem dX0_removeSnapshot_115 : decode cX0_removeSnapshot 115 = .ok (.getfield 9, 3) := by decide +kernel
theorem dX0_removeSnapshot_118 : decode cX0_removeSnapshot 118 = .ok (.iload_n 2, 1) := by decide +kernel
theorem dX0_removeSnapshot_119 : decode cX0_removeSnapshot 119 = .ok (.iload_n 3, 1) := by decide +kernel
theorem dX0_removeSnapshot_120 : decode cX0_removeSnapshot 120 = .ok (.invokevirtual 50, 3) := by decide +kernel
theorem dX0_removeSnapshot_123 : decode cX0_removeSnapshot 123 = .ok (.aload_n 0, 1) := by decide +kernel
theorem dX0_removeSnapshot_124 : decode cX0_removeSnapshot 124 = .ok (.getfield 9, 3) := by decide +kernel
theorem dX0_removeSnapshot_127 : decode cX0_removeSnapshot 127 = .ok (.iload_n 1, 1) := by decide +kernel
theorem dX0_removeSnapshot_128 : decode cX0_removeSnapshot 128 = .ok (.invokevirtual 85, 3) := by decide +kernel
theorem dX0_removeSnapshot_131 : decode cX0_removeSnapshot 131 = .ok (.iload 4, 2) := by decide +kernel
theorem dX0_removeSnapshot_133 : decode cX0_removeSnapshot 133 = .ok (.ireturn, 1) := by decide +kernel
