theorem dX2_look_46 : decode cX2_look 46 = .ok (.istore_n 3, 1) := by decide +kernel
theorem dX2_look_47 : decode cX2_look 47 = .ok (.iload_n 3, 1) := by decide +kernel
theorem dX2_look_48 : decode cX2_look 48 = .ok (.ifCond .lt 21, 3) := by decide +kernel
theorem dX2_look_51 : decode cX2_look 51 = .ok (.iload_n 3, 1) := by decide +kernel
theorem dX2_look_52 : decode cX2_look 52 = .ok (.bipush 96, 2) := by decide +kernel
theorem dX2_look_54 : decode cX2_look 54 = .ok (.if_icmp .ge 15, 3) := by decide +kernel
theorem dX2_look_57 : decode cX2_look 57 = .ok (.aload_n 0, 1) := by decide +kernel
theorem dX2_look_58 : decode cX2_look 58 = .ok (.getfield 15, 3) := by decide +kernel
theorem dX2_look_61 : decode cX2_look 61 = .ok (.iload_n 3, 1) := by decide +kernel
theorem dX2_look_62 : decode cX2_look 62 = .ok (.dup2, 1) := by decide +kernel
theorem dX2_look_63 : decode cX2_look 63 = .ok (.iaload, 1) := by decide +kernel
theorem dX2_look_64 : decode cX2_look 64 = .ok (.iconst 1, 1) := by decide +kernel
theorem dX2_look_65 : decode cX2_look 65 = .ok (.iload_n 1, 1) := by decide +kernel
theorem dX2_look_66 : decode cX2_look 66 = .ok (.ishl, 1) := by decide +kernel
theorem dX2_look_67 : decode cX2_look 67 = .ok (.ior, 1) := by decide +kernel
theorem dX2_look_68 : decode cX2_look 68 = .ok (.iastore, 1) := by decide +kernel
theorem dX2_look_69 : decode cX2_look 69 = .ok (.iinc 2 1, 3) := by decide +kernel
theorem dX2_look_72 : decode cX2_look 72 = .ok (.goto (-41), 3) := by decide +kernel
theorem dX2_look_75 : decode cX2_look 75 = .ok (.iinc 1 1, 3) := by decide +kernel
theorem dX2_look_78 : decode cX2_look 78 = .ok (.goto (-55), 3) := by decide +kernel
theorem dX2_look_81 : decode cX2_look 81 = .ok (.return_, 1) := by decide +kernel
theorem dX2_setOf_0 : decode cX2_setOf 0 = .ok (.iload_n 1, 1) := by decide +kernel
theorem dX2_setOf_1 : decode cX2_setOf 1 = .ok (.ifCond .lt 18, 3) := by decide +kernel
theorem dX2_setOf_4 : decode cX2_setOf 4 = .ok (.iload_n 1, 1) := by decide +kernel
theorem dX2_setOf_5 : decode cX2_setOf 5 = .ok (.bipush 96, 2) := by decide +kernel
theorem dX2_setOf_7 : decode cX2_setOf 7 = .ok (.if_icmp .ge 12, 3) := by decide +kernel
theorem dX2_setOf_10 : decode cX2_setOf 10 = .ok (.aload_n 0, 1) := by decide +kernel
theorem dX2_setOf_11 : decode cX2_setOf 11 = .ok (.getfield 15, 3) := by decide +kernel
theorem dX2_setOf_14 : decode cX2_setOf 14 = .ok (.iload_n 1, 1) := by decide +kernel
theorem dX2_setOf_15 : decode cX2_setOf 15 = .ok (.iaload, 1) := by decide +kernel
theorem dX2_setOf_16 : decode cX2_setOf 16 = .ok (.goto 4, 3) := by decide +kernel
theorem dX2_setOf_19 : decode cX2_setOf 19 = .ok (.iconst 0, 1) := by decide +kernel
theorem dX2_setOf_20 : decode cX2_setOf 20 = .ok (.ireturn, 1) := by decide +kernel
theorem dX3_init_0 : decode cX3_init 0 = .ok (.aload_n 0, 1) := by decide +kernel
theorem dX3_init_1 : decode cX3_init 1 = .ok (.invokespecial 3, 3) := by decide +kernel
theorem dX3_init_4 : decode cX3_init 4 = .ok (.aload_n 0, 1) := by decide +kernel
theorem dX3_init_5 : decode cX3_init 5 = .ok (.aload_n 1, 1) := by decide +kernel
theorem dX3_init_6 : decode cX3_init 6 = .ok (.putfield 9, 3) := by decide +kernel
theorem dX3_init_9 : decode cX3_init 9 = .ok (.aload_n 0, 1) := by decide +kernel
theorem dX3_init_10 : decode cX3_init 10 = .ok (.iconst 0, 1) := by decide +kernel
theorem dX3_init_11 : decode cX3_init 11 = .ok (.putfield 15, 3) := by decide +kernel
theorem dX3_init_14 : decode cX3_init 14 = .ok (.return_, 1) := by decide +kernel
set_option maxRecDepth 20000 in
theorem ggX3_play_X3_nextFace : GoodIn wsX3_play wsX3_nextFace := goodIn_r _ [6, 1, 7, 207, 208] (by decide +kernel) (by decide +kernel)
set_option maxRecDepth 20000 in
theorem gX3_play_X3_nextFace : GoodIn wsX3_play (wsV RX3 19 RX3 yX3_nextFace wsX3_nextFace) := goodIn_app (goodIn_of _ (by decide +kernel)) ggX3_play_X3_nextFace
set_option maxRecDepth 20000 in
theorem ggX3_play_X3_act : GoodIn wsX3_play wsX3_act := goodIn_r _ [11, 12, 13, 14, 15, 16, 17, 18, 19, 20, 21, 22, 23, 24, 25, 26, 27, 28, 29, 30, 31, 32, 33, 34, 35, 36, 37, 38, 39, 40, 41, 42, 43, 44, 45, 46, 47, 48, 49, 50, 51, 52, 53, 54, 55, 56, 57, 58, 59, 60, 61, 62, 63, 64, 65, 66, 67, 68, 69, 70, 71, 72, 73, 74, 75, 76, 77, 78, 79, 80, 81, 82, 83, 84, 85, 86, 87, 88, 89, 90, 91, 92, 93, 94, 95, 96, 97, 98, 99, 100, 101, 102, 103, 104, 105, 106, 107, 108, 109, 110, 111, 112, 113, 114, 115, 116, 117, 118, 119, 120, 121, 122, 123, 124, 125, 126, 127, 128, 129, 130, 131, 132, 133, 134, 135, 136, 137, 138, 139, 140, 141, 142, 143, 144, 145, 146, 147, 148, 149, 150, 151, 152, 153, 154, 155, 156, 157, 158, 159, 160, 161, 162, 163, 164, 165, 166, 167, 168, 169, 170, 171, 172, 173, 174, 175, 176, 177, 178, 179, 180, 181, 182, 183, 184, 185, 186, 187, 188, 189, 190, 191, 192, 193, 194, 195, 196, 197, 198, 199, 200, 201, 202, 203, 204, 205, 206, 207, 208, 209, 210, 211, 212, 213, 214, 215, 216, 217, 218, 219, 220] (by decide +kernel) (by decide +kernel)
set_option maxRecDepth 20000 in
theorem gX3_play_X3_act : GoodIn wsX3_play (wsV RX3 23 RX3 yX3_act wsX3_act) := goodIn_app (goodIn_of _ (by decide +kernel)) ggX3_play_X3_act
theorem dX3_play_0 : decode cX3_play 0 = .ok (.aload_n 0, 1) := by decide +kernel
theorem dX3_play_1 : decode cX3_play 1 = .ok (.iload_n 1, 1) := by decide +kernel
theorem dX3_play_2 : decode cX3_play 2 = .ok (.putfield 15, 3) := by decide +kernel
theorem dX3_play_5 : decode cX3_play 5 = .ok (.iconst 0, 1) := by decide +kernel
theorem dX3_play_6 : decode cX3_play 6 = .ok (.istore_n 3, 1) := by decide +kernel
theorem dX3_play_7 : decode cX3_play 7 = .ok (.iload_n 3, 1) := by decide +kernel
theorem dX3_play_8 : decode cX3_play 8 = .ok (.iload_n 2, 1) := by decide +kernel
theorem dX3_play_9 : decode cX3_play 9 = .ok (.if_icmp .ge 37, 3) := by decide +kernel
theorem dX3_play_12 : decode cX3_play 12 = .ok (.aload_n 0, 1) := by decide +kernel
theorem dX3_play_13 : decode cX3_play 13 = .ok (.invokevirtual 19, 3) := by decide +kernel
theorem dX3_play_16 : decode cX3_play 16 = .ok (.istore 4, 2) := by decide +kernel
theorem dX3_play_18 : decode cX3_play 18 = .ok (.aload_n 0, 1) := by decide +kernel
theorem dX3_play_19 : decode cX3_play 19 = .ok (.invokevirtual 19, 3) := by decide +kernel
theorem dX3_play_22 : decode cX3_play 22 = .ok (.istore 5, 2) := by decide +kernel
theorem dX3_play_24 : decode cX3_play 24 = .ok (.aload_n 0, 1) := by decide +kernel
theorem dX3_play_25 : decode cX3_play 25 = .ok (.invokevirtual 19, 3) := by decide +kernel
theorem dX3_play_28 : decode cX3_play 28 = .ok (.istore 6, 2) := by decide +kernel
theorem dX3_play_30 : decode cX3_play 30 = .ok (.aload_n 0, 1) := by decide +kernel
theorem dX3_play_31 : decode cX3_play 31 = .ok (.iload 4, 2) := by decide +kernel
theorem dX3_play_33 : decode cX3_play 33 = .ok (.iload 5, 2) := by decide +kernel
theorem dX3_play_35 : decode cX3_play 35 = .ok (.iload 6, 2) := by decide +kernel
theorem dX3_play_37 : decode cX3_play 37 = .ok (.invokevirtual 23, 3) := by decide +kernel
theorem dX3_play_40 : decode cX3_play 40 = .ok (.iinc 3 1, 3) := by decide +kernel
theorem dX3_play_43 : decode cX3_play 43 = .ok (.goto (-36), 3) := by decide +kernel
theorem dX3_play_46 : decode cX3_play 46 = .ok (.return_, 1) := by decide +kernel
theorem dX3_nextFace_0 : decode cX3_nextFace 0 = .ok (.aload_n 0, 1) := by decide +kernel
theorem dX3_nextFace_1 : decode cX3_nextFace 1 = .ok (.aload_n 0, 1) := by decide +kernel
theorem dX3_nextFace_2 : decode cX3_nextFace 2 = .ok (.getfield 15, 3) := by decide +kernel
theorem dX3_nextFace_5 : decode cX3_nextFace 5 = .ok (.ldc 27, 2) := by decide +kernel
theorem dX3_nextFace_7 : decode cX3_nextFace 7 = .ok (.imul, 1) := by decide +kernel
theorem dX3_nextFace_8 : decode cX3_nextFace 8 = .ok (.sipush 12345, 3) := by decide +kernel
theorem dX3_nextFace_11 : decode cX3_nextFace 11 = .ok (.iadd, 1) := by decide +kernel
theorem dX3_nextFace_12 : decode cX3_nextFace 12 = .ok (.putfield 15, 3) := by decide +kernel
theorem dX3_nextFace_15 : decode cX3_nextFace 15 = .ok (.aload_n 0, 1) := by decide +kernel
theorem dX3_nextFace_16 : decode cX3_nextFace 16 = .ok (.getfield 15, 3) := by decide +kernel
theorem dX3_nextFace_19 : decode cX3_nextFace 19 = .ok (.bipush 9, 2) := by decide +kernel
theorem dX3_nextFace_21 : decode cX3_nextFace 21 = .ok (.iushr, 1) := by decide +kernel
theorem dX3_nextFace_22 : decode cX3_nextFace 22 = .ok (.bipush 24, 2) := by decide +kernel
theorem dX3_nextFace_24 : decode cX3_nextFace 24 = .ok (.irem, 1) := by decide +kernel
theorem dX3_nextFace_25 : decode cX3_nextFace 25 = .ok (.ireturn, 1) := by decide +kernel
set_option maxRecDepth 20000 in
theorem ggX3_act_X0_writeSlot : GoodIn wsX3_act wsX0_writeSlot := goodIn_r _ [6, 7, 8, 9, 10, 11, 12, 13, 14, 15, 16, 17, 18, 19, 20, 21, 22, 23, 24, 25, 5, 26, 27, 28, 29, 30, 31, 32, 33, 34, 35, 36, 37, 38, 39, 40, 41, 42, 43, 44, 45, 46, 47, 48, 49, 50, 51, 52, 53, 54, 55, 56, 57, 58, 59, 60, 61, 62, 63, 64, 65, 66, 67, 68, 69, 70, 71, 72, 73, 74, 75, 76, 77, 78, 79, 80, 198, 199, 200, 201, 202, 203, 204, 205, 206, 207, 208, 209] (by decide +kernel) (by decide +kernel)
set_option maxRecDepth 20000 in
theorem gX3_act_X0_writeSlot : GoodIn wsX3_act (wsV RX3 28 RX0 yX0_writeSlot wsX0_writeSlot) := goodIn_app (goodIn_of _ (by decide +kernel)) ggX3_act_X0_writeSlot
set_option maxRecDepth 20000 in
theorem ggX3_act_X0_eraseSlot : GoodIn wsX3_act wsX0_eraseSlot := goodIn_r _ [84, 8, 9, 10, 11, 12, 13, 14, 15, 16, 17, 18, 19, 20, 21, 22, 46, 37, 38, 39, 40, 54, 55, 56, 5, 57, 58, 59, 60, 61, 62, 63, 64, 65, 52, 66, 67, 68, 69, 70, 71, 72, 73, 74, 75, 76, 77, 78, 79, 45, 80, 198, 199, 200, 201, 202, 203, 204, 205, 206, 207, 208, 209] (by decide +kernel) (by decide +kernel)
set_option maxRecDepth 20000 in
theorem gX3_act_X0_eraseSlot : GoodIn wsX3_act (wsV RX3 34 RX0 yX0_eraseSlot wsX0_eraseSlot) := goodIn_app (goodIn_of _ (by decide +kernel)) ggX3_act_X0_eraseSlot
set_option maxRecDepth 20000 in
theorem ggX3_act_X0_addSnapshot : GoodIn wsX3_act wsX0_addSnapshot := goodIn_r _ [88, 8, 9, 10, 11, 12, 13, 14, 15, 16, 17, 18, 19, 20, 21, 22, 89, 90, 91, 92, 53, 93, 94, 95, 96, 75, 97, 98, 99, 100, 36, 37, 38, 39, 40, 101, 59, 60, 61, 66, 67, 68, 69, 70, 102, 103, 104, 105, 106, 107, 108, 109, 110, 111, 112, 113, 114, 115, 116, 117, 118, 119, 198, 199, 200, 201, 202, 203, 204, 205, 206, 207, 208, 209] (by decide +kernel) (by decide +kernel)
set_option maxRecDepth 20000 in
theorem gX3_act_X0_addSnapshot : GoodIn wsX3_act (wsV RX3 38 RX0 yX0_addSnapshot wsX0_addSnapshot) := goodIn_app (goodIn_of _ (by decide +kernel)) ggX3_act_X0_addSnapshot
set_option maxRecDepth 20000 in
theorem ggX3_act_X0_removeThing : GoodIn wsX3_act wsX0_removeThing := goodIn_r _ [123, 8, 124, 15, 16, 12, 17, 18, 125, 126, 127, 128, 19, 20, 21, 22, 129, 130, 131, 132, 133, 134, 135, 136, 137, 115, 138, 139, 140, 141, 70, 142, 143, 144, 5, 145, 146, 147, 148, 149, 66, 67, 68, 69, 46, 37, 38, 39, 40, 62, 63, 64, 65, 52, 71, 72, 73, 74, 75, 76, 77, 78, 79, 45, 80, 102, 103, 104, 105, 150, 151, 152, 153, 110, 31, 154, 155, 156, 157, 54, 55, 56, 57, 58, 59, 60, 61, 198, 199, 200, 201, 202, 203, 204, 205, 206, 207, 208, 209] (by decide +kernel) (by decide +kernel)
set_option maxRecDepth 20000 in
theorem gX3_act_X0_removeThing : GoodIn wsX3_act (wsV RX3 41 RX0 yX0_removeThing wsX0_removeThing) := goodIn_app (goodIn_of _ (by decide +kernel)) ggX3_act_X0_removeThing
set_option maxRecDepth 20000 in
theorem ggX3_act_X0_addFork : GoodIn wsX3_act wsX0_addFork := goodIn_r _ [161, 8, 9, 10, 11, 12, 13, 14, 15, 16, 17, 18, 19, 20, 21, 22, 89, 90, 91, 92, 53, 93, 94, 95, 96, 75, 97, 98, 99, 100, 36, 37, 38, 39, 40, 101, 59, 60, 61, 102, 103, 104, 105, 70, 198, 199, 200, 201, 202, 203, 204, 205, 206, 207, 208, 209] (by decide +kernel) (by decide +kernel)
set_option maxRecDepth 20000 in
theorem gX3_act_X0_addFork : GoodIn wsX3_act (wsV RX3 45 RX0 yX0_addFork wsX0_addFork) := goodIn_app (goodIn_of _ (by decide +kernel)) ggX3_act_X0_addFork
set_option maxRecDepth 20000 in
theorem ggX3_act_X0_promoteFiles : GoodIn wsX3_act wsX0_promoteFiles := goodIn_r _ [165, 8, 9, 10, 11, 12, 13, 14, 15, 16, 17, 18, 19, 20, 21, 22, 166, 167, 168, 169, 170, 171, 172, 173, 174, 155, 156, 157, 110, 175, 176, 177, 178, 179, 67, 68, 69, 70, 180, 181, 182, 183, 106, 107, 108, 109, 66, 198, 199, 200, 201, 202, 203, 204, 205, 206, 207, 208, 209] (by decide +kernel) (by decide +kernel)
set_option maxRecDepth 20000 in
theorem gX3_act_X0_promoteFiles : GoodIn wsX3_act (wsV RX3 48 RX0 yX0_promoteFiles wsX0_promoteFiles) := goodIn_app (goodIn_of _ (by decide +kernel)) ggX3_act_X0_promoteFiles
set_option maxRecDepth 20000 in
theorem ggX3_act_X0_rollFilesBack : GoodIn wsX3_act wsX0_rollFilesBack := goodIn_r _ [187, 8, 9, 10, 11, 12, 13, 14, 15, 16, 17, 18, 19, 20, 21, 22, 66, 67, 68, 69, 70, 54, 55, 56, 5, 57, 46, 37, 38, 39, 40, 58, 59, 60, 61, 62, 63, 64, 65, 52, 71, 72, 73, 74, 75, 76, 77, 78, 79, 45, 80, 97, 98, 99, 100, 36, 101, 198, 199, 200, 201, 202, 203, 204, 205, 206, 207, 208, 209] (by decide +kernel) (by decide +kernel)
set_option maxRecDepth 20000 in
theorem gX3_act_X0_rollFilesBack : GoodIn wsX3_act (wsV RX3 51 RX0 yX0_rollFilesBack wsX0_rollFilesBack) := goodIn_app (goodIn_of _ (by decide +kernel)) ggX3_act_X0_rollFilesBack
set_option maxRecDepth 20000 in
theorem ggX3_act_X0_addFiles : GoodIn wsX3_act wsX0_addFiles := goodIn_r _ [191, 7, 8, 89, 90, 91, 12, 92, 53, 93, 94, 95, 96, 18, 75, 192, 193, 194, 195, 31, 198, 199, 200, 201, 202, 203, 204, 205, 206, 207, 208, 209] (by decide +kernel) (by decide +kernel)
set_option maxRecDepth 20000 in
theorem gX3_act_X0_addFiles : GoodIn wsX3_act (wsV RX3 54 RX0 yX0_addFiles wsX0_addFiles) := goodIn_app (goodIn_of _ (by decide +kernel)) ggX3_act_X0_addFiles
theorem dX3_act_0 : decode cX3_act 0 = .ok (.iload_n 2, 1) := by decide +kernel
theorem dX3_act_1 : decode cX3_act 1 = .ok (.bipush 20, 2) := by decide +kernel
theorem dX3_act_3 : decode cX3_act 3 = .ok (.irem, 1) := by decide +kernel
theorem dX3_act_4 : decode cX3_act 4 = .ok (.istore 4, 2) := by decide +kernel
theorem dX3_act_6 : decode cX3_act 6 = .ok (.iload_n 1, 1) := by decide +kernel
theorem dX3_act_7 : decode cX3_act 7 = .ok (.bipush 7, 2) := by decide +kernel
theorem dX3_act_9 : decode cX3_act 9 = .ok (.if_icmp .gt 23, 3) := by decide +kernel
theorem dX3_act_12 : decode cX3_act 12 = .ok (.aload_n 0, 1) := by decide +kernel
theorem dX3_act_13 : decode cX3_act 13 = .ok (.getfield 9, 3) := by decide +kernel
theorem dX3_act_16 : decode cX3_act 16 = .ok (.iload 4, 2) := by decide +kernel
theorem dX3_act_18 : decode cX3_act 18 = .ok (.iload_n 3, 1) := by decide +kernel
theorem dX3_act_19 : decode cX3_act 19 = .ok (.bipush 12, 2) := by decide +kernel
theorem dX3_act_21 : decode cX3_act 21 = .ok (.irem, 1) := by decide +kernel
theorem dX3_act_22 : decode cX3_act 22 = .ok (.iconst 1, 1) := by decide +kernel
theorem dX3_act_23 : decode cX3_act 23 = .ok (.iload_n 2, 1) := by decide +kernel
theorem dX3_act_24 : decode cX3_act 24 = .ok (.iadd, 1) := by decide +kernel
theorem dX3_act_25 : decode cX3_act 25 = .ok (.invokevirtual 28, 3) := by decide +kernel
theorem dX3_act_28 : decode cX3_act 28 = .ok (.pop, 1) := by decide +kernel
theorem dX3_act_29 : decode cX3_act 29 = .ok (.goto 134, 3) := by decide +kernel
theorem dX3_act_32 : decode cX3_act 32 = .ok (.iload_n 1, 1) := by decide +kernel
theorem dX3_act_33 : decode cX3_act 33 = .ok (.bipush 10, 2) := by decide +kernel
theorem dX3_act_35 : decode cX3_act 35 = .ok (.if_icmp .gt 20, 3) := by decide +kernel
theorem dX3_act_38 : decode cX3_act 38 = .ok (.aload_n 0, 1) := by decide +kernel
theorem dX3_act_39 : decode cX3_act 39 = .ok (.getfield 9, 3) := by decide +kernel
theorem dX3_act_42 : decode cX3_act 42 = .ok (.iload 4, 2) := by decide +kernel
theorem dX3_act_44 : decode cX3_act 44 = .ok (.iload_n 3, 1) := by decide +kernel
theorem dX3_act_45 : decode cX3_act 45 = .ok (.bipush 12, 2) := by decide +kernel
theorem dX3_act_47 : decode cX3_act 47 = .ok (.irem, 1) := by decide +kernel
theorem dX3_act_48 : decode cX3_act 48 = .ok (.invokevirtual 34, 3) := by decide +kernel
theorem dX3_act_51 : decode cX3_act 51 = .ok (.pop, 1) := by decide +kernel
theorem dX3_act_52 : decode cX3_act 52 = .ok (.goto 111, 3) := by decide +kernel
theorem dX3_act_55 : decode cX3_act 55 = .ok (.iload_n 1, 1) := by decide +kernel
theorem dX3_act_56 : decode cX3_act 56 = .ok (.bipush 14, 2) := by decide +kernel
theorem dX3_act_58 : decode cX3_act 58 = .ok (.if_icmp .gt 20, 3) := by decide +kernel
theorem dX3_act_61 : decode cX3_act 61 = .ok (.aload_n 0, 1) := by decide +kernel
theorem dX3_act_62 : decode cX3_act 62 = .ok (.getfield 9, 3) := by decide +kernel
theorem dX3_act_65 : decode cX3_act 65 = .ok (.iload 4, 2) := by decide +kernel
theorem dX3_act_67 : decode cX3_act 67 = .ok (.iload_n 3, 1) := by decide +kernel
theorem dX3_act_68 : decode cX3_act 68 = .ok (.bipush 20, 2) := by decide +kernel
theorem dX3_act_70 : decode cX3_act 70 = .ok (.idiv, 1) := by decide +kernel
theorem dX3_act_71 : decode cX3_act 71 = .ok (.invokevirtual 38, 3) := by decide +kernel
theorem dX3_act_74 : decode cX3_act 74 = .ok (.pop, 1) := by decide +kernel
theorem dX3_act_75 : decode cX3_act 75 = .ok (.goto 88, 3) := by decide +kernel
theorem dX3_act_78 : decode cX3_act 78 = .ok (.iload_n 1, 1) := by decide +kernel
theorem dX3_act_79 : decode cX3_act 79 = .ok (.bipush 18, 2) := by decide +kernel
theorem dX3_act_81 : decode cX3_act 81 = .ok (.if_icmp .gt 16, 3) := by decide +kernel
theorem dX3_act_84 : decode cX3_act 84 = .ok (.aload_n 0, 1) := by decide +kernel
theorem dX3_act_85 : decode cX3_act 85 = .ok (.getfield 9, 3) := by decide +kernel
theorem dX3_act_88 : decode cX3_act 88 = .ok (.iload 4, 2) := by decide +kernel
theorem dX3_act_90 : decode cX3_act 90 = .ok (.invokevirtual 41, 3) := by decide +kernel
theorem dX3_act_93 : decode cX3_act 93 = .ok (.pop, 1) := by decide +kernel
theorem dX3_act_94 : decode cX3_act 94 = .ok (.goto 69, 3) := by decide +kernel
theorem dX3_act_97 : decode cX3_act 97 = .ok (.iload_n 1, 1) := by decide +kernel
theorem dX3_act_98 : decode cX3_act 98 = .ok (.bipush 20, 2) := by decide +kernel
theorem dX3_act_100 : decode cX3_act 100 = .ok (.if_icmp .gt 16, 3) := by decide +kernel
theorem dX3_act_103 : decode cX3_act 103 = .ok (.aload_n 0, 1) := by decide +kernel
theorem dX3_act_104 : decode cX3_act 104 = .ok (.getfield 9, 3) := by decide +kernel
theorem dX3_act_107 : decode cX3_act 107 = .ok (.iload 4, 2) := by decide +kernel
theorem dX3_act_109 : decode cX3_act 109 = .ok (.invokevirtual 45, 3) := by decide +kernel
theorem dX3_act_112 : decode cX3_act 112 = .ok (.pop, 1) := by decide +kernel
theorem dX3_act_113 : decode cX3_act 113 = .ok (.goto 50, 3) := by decide +kernel
theorem dX3_act_116 : decode cX3_act 116 = .ok (.iload_n 1, 1) := by decide +kernel
theorem dX3_act_117 : decode cX3_act 117 = .ok (.bipush 21, 2) := by decide +kernel
theorem dX3_act_119 : decode cX3_act 119 = .ok (.if_icmp .ne 16, 3) := by decide +kernel
theorem dX3_act_122 : decode cX3_act 122 = .ok (.aload_n 0, 1) := by decide +kernel
theorem dX3_act_123 : decode cX3_act 123 = .ok (.getfield 9, 3) := by decide +kernel
theorem dX3_act_126 : decode cX3_act 126 = .ok (.iload 4, 2) := by decide +kernel
theorem dX3_act_128 : decode cX3_act 128 = .ok (.invokevirtual 48, 3) := by decide +kernel
theorem dX3_act_131 : decode cX3_act 131 = .ok (.pop, 1) := by decide +kernel
theorem dX3_act_132 : decode cX3_act 132 = .ok (.goto 31, 3) := by decide +kernel
theorem dX3_act_135 : decode cX3_act 135 = .ok (.iload_n 1, 1) := by decide +kernel
theorem dX3_act_136 : decode cX3_act 136 = .ok (.bipush 22, 2) := by decide +kernel
theorem dX3_act_138 : decode cX3_act 138 = .ok (.if_icmp .ne 16, 3) := by decide +kernel
theorem dX3_act_141 : decode cX3_act 141 = .ok (.aload_n 0, 1) := by decide +kernel
theorem dX3_act_142 : decode cX3_act 142 = .ok (.getfield 9, 3) := by decide +kernel
theorem dX3_act_145 : decode cX3_act 145 = .ok (.iload 4, 2) := by decide +kernel
theorem dX3_act_147 : decode cX3_act 147 = .ok (.invokevirtual 51, 3) := by decide +kernel
theorem dX3_act_150 : decode cX3_act 150 = .ok (.pop, 1) := by decide +kernel
theorem dX3_act_151 : decode cX3_act 151 = .ok (.goto 12, 3) := by decide +kernel
theorem dX3_act_154 : decode cX3_act 154 = .ok (.aload_n 0, 1) := by decide +kernel
theorem dX3_act_155 : decode cX3_act 155 = .ok (.getfield 9, 3) := by decide +kernel
theorem dX3_act_158 : decode cX3_act 158 = .ok (.iconst (-1), 1) := by decide +kernel
theorem dX3_act_159 : decode cX3_act 159 = .ok (.invokevirtual 54, 3) := by decide +kernel
theorem dX3_act_162 : decode cX3_act 162 = .ok (.pop, 1) := by decide +kernel
theorem dX3_act_163 : decode cX3_act 163 = .ok (.return_, 1) := by decide +kernel
theorem dX4_init_0 : decode cX4_init 0 = .ok (.aload_n 0, 1) := by decide +kernel
theorem dX4_init_1 : decode cX4_init 1 = .ok (.invokespecial 3, 3) := by decide +kernel
theorem dX4_init_4 : decode cX4_init 4 = .ok (.aload_n 0, 1) := by decide +kernel
theorem dX4_init_5 : decode cX4_init 5 = .ok (.bipush 20, 2) := by decide +kernel
theorem dX4_init_7 : decode cX4_init 7 = .ok (.newarray .int, 2) := by decide +kernel
theorem dX4_init_9 : decode cX4_init 9 = .ok (.putfield 9, 3) := by decide +kernel
theorem dX4_init_12 : decode cX4_init 12 = .ok (.aload_n 0, 1) := by decide +kernel
theorem dX4_init_13 : decode cX4_init 13 = .ok (.bipush 20, 2) := by decide +kernel
theorem dX4_init_15 : decode cX4_init 15 = .ok (.newarray .int, 2) := by decide +kernel
theorem dX4_init_17 : decode cX4_init 17 = .ok (.putfield 15, 3) := by decide +kernel
theorem dX4_init_20 : decode cX4_init 20 = .ok (.aload_n 0, 1) := by decide +kernel
theorem dX4_init_21 : decode cX4_init 21 = .ok (.bipush 20, 2) := by decide +kernel
theorem dX4_init_23 : decode cX4_init 23 = .ok (.newarray .int, 2) := by decide +kernel
theorem dX4_init_25 : decode cX4_init 25 = .ok (.putfield 18, 3) := by decide +kernel
theorem dX4_init_28 : decode cX4_init 28 = .ok (.aload_n 0, 1) := by decide +kernel
theorem dX4_init_29 : decode cX4_init 29 = .ok (.bipush 20, 2) := by decide +kernel
theorem dX4_init_31 : decode cX4_init 31 = .ok (.newarray .int, 2) := by decide +kernel
theorem dX4_init_33 : decode cX4_init 33 = .ok (.putfield 21, 3) := by decide +kernel
theorem dX4_init_36 : decode cX4_init 36 = .ok (.aload_n 0, 1) := by decide +kernel
theorem dX4_init_37 : decode cX4_init 37 = .ok (.bipush 20, 2) := by decide +kernel
theorem dX4_init_39 : decode cX4_init 39 = .ok (.newarray .int, 2) := by decide +kernel
theorem dX4_init_41 : decode cX4_init 41 = .ok (.putfield 24, 3) := by decide +kernel
theorem dX4_init_44 : decode cX4_init 44 = .ok (.aload_n 0, 1) := by decide +kernel
theorem dX4_init_45 : decode cX4_init 45 = .ok (.bipush 20, 2) := by decide +kernel
theorem dX4_init_47 : decode cX4_init 47 = .ok (.newarray .int, 2) := by decide +kernel
theorem dX4_init_49 : decode cX4_init 49 = .ok (.putfield 27, 3) := by decide +kernel
theorem dX4_init_52 : decode cX4_init 52 = .ok (.aload_n 0, 1) := by decide +kernel
theorem dX4_init_53 : decode cX4_init 53 = .ok (.sipush 240, 3) := by decide +kernel
theorem dX4_init_56 : decode cX4_init 56 = .ok (.newarray .int, 2) := by decide +kernel
theorem dX4_init_58 : decode cX4_init 58 = .ok (.putfield 30, 3) := by decide +kernel
theorem dX4_init_61 : decode cX4_init 61 = .ok (.aload_n 0, 1) := by decide +kernel
theorem dX4_init_62 : decode cX4_init 62 = .ok (.bipush 96, 2) := by decide +kernel
theorem dX4_init_64 : decode cX4_init 64 = .ok (.newarray .int, 2) := by decide +kernel
theorem dX4_init_66 : decode cX4_init 66 = .ok (.putfield 33, 3) := by decide +kernel
theorem dX4_init_69 : decode cX4_init 69 = .ok (.aload_n 0, 1) := by decide +kernel
theorem dX4_init_70 : decode cX4_init 70 = .ok (.bipush 96, 2) := by decide +kernel
theorem dX4_init_72 : decode cX4_init 72 = .ok (.newarray .int, 2) := by decide +kernel
theorem dX4_init_74 : decode cX4_init 74 = .ok (.putfield 36, 3) := by decide +kernel
theorem dX4_init_77 : decode cX4_init 77 = .ok (.aload_n 0, 1) := by decide +kernel
theorem dX4_init_78 : decode cX4_init 78 = .ok (.iconst 1, 1) := by decide +kernel
theorem dX4_init_79 : decode cX4_init 79 = .ok (.putfield 39, 3) := by decide +kernel
theorem dX4_init_82 : decode cX4_init 82 = .ok (.aload_n 0, 1) := by decide +kernel
theorem dX4_init_83 : decode cX4_init 83 = .ok (.iconst 0, 1) := by decide +kernel
theorem dX4_init_84 : decode cX4_init 84 = .ok (.putfield 43, 3) := by decide +kernel
theorem dX4_init_87 : decode cX4_init 87 = .ok (.iconst 0, 1) := by decide +kernel
theorem dX4_init_88 : decode cX4_init 88 = .ok (.istore_n 1, 1) := by decide +kernel
theorem dX4_init_89 : decode cX4_init 89 = .ok (.iload_n 1, 1) := by decide +kernel
theorem dX4_init_90 : decode cX4_init 90 = .ok (.bipush 20, 2) := by decide +kernel
theorem dX4_init_92 : decode cX4_init 92 = .ok (.if_icmp .ge 37, 3) := by decide +kernel
theorem dX4_init_95 : decode cX4_init 95 = .ok (.aload_n 0, 1) := by decide +kernel
theorem dX4_init_96 : decode cX4_init 96 = .ok (.getfield 9, 3) := by decide +kernel
theorem dX4_init_99 : decode cX4_init 99 = .ok (.iload_n 1, 1) := by decide +kernel
theorem dX4_init_100 : decode cX4_init 100 = .ok (.iconst (-1), 1) := by decide +kernel
theorem dX4_init_101 : decode cX4_init 101 = .ok (.iastore, 1) := by decide +kernel
theorem dX4_init_102 : decode cX4_init 102 = .ok (.aload_n 0, 1) := by decide +kernel
theorem dX4_init_103 : decode cX4_init 103 = .ok (.getfield 18, 3) := by decide +kernel
theorem dX4_init_106 : decode cX4_init 106 = .ok (.iload_n 1, 1) := by decide +kernel
theorem dX4_init_107 : decode cX4_init 107 = .ok (.iconst (-1), 1) := by decide +kernel
theorem dX4_init_108 : decode cX4_init 108 = .ok (.iastore, 1) := by decide +kernel
theorem dX4_init_109 : decode cX4_init 109 = .ok (.aload_n 0, 1) := by decide +kernel
theorem dX4_init_110 : decode cX4_init 110 = .ok (.getfield 21, 3) := by decide +kernel
theorem dX4_init_113 : decode cX4_init 113 = .ok (.iload_n 1, 1) := by decide +kernel
theorem dX4_init_114 : decode cX4_init 114 = .ok (.iconst (-1), 1) := by decide +kernel
theorem dX4_init_115 : decode cX4_init 115 = .ok (.iastore, 1) := by decide +kernel
theorem dX4_init_116 : decode cX4_init 116 = .ok (.aload_n 0, 1) := by decide +kernel
theorem dX4_init_117 : decode cX4_init 117 = .ok (.getfield 27, 3) := by decide +kernel
theorem dX4_init_120 : decode cX4_init 120 = .ok (.iload_n 1, 1) := by decide +kernel
theorem dX4_init_121 : decode cX4_init 121 = .ok (.iconst (-1), 1) := by decide +kernel
theorem dX4_init_122 : decode cX4_init 122 = .ok (.iastore, 1) := by decide +kernel
theorem dX4_init_123 : decode cX4_init 123 = .ok (.iinc 1 1, 3) := by decide +kernel
theorem dX4_init_126 : decode cX4_init 126 = .ok (.goto (-37), 3) := by decide +kernel
theorem dX4_init_129 : decode cX4_init 129 = .ok (.iconst 0, 1) := by decide +kernel
theorem dX4_init_130 : decode cX4_init 130 = .ok (.istore_n 1, 1) := by decide +kernel
theorem dX4_init_131 : decode cX4_init 131 = .ok (.iload_n 1, 1) := by decide +kernel
theorem dX4_init_132 : decode cX4_init 132 = .ok (.sipush 240, 3) := by decide +kernel
theorem dX4_init_135 : decode cX4_init 135 = .ok (.if_icmp .ge 16, 3) := by decide +kernel
theorem dX4_init_138 : decode cX4_init 138 = .ok (.aload_n 0, 1) := by decide +kernel
theorem dX4_init_139 : decode cX4_init 139 = .ok (.getfield 30, 3) := by decide +kernel
theorem dX4_init_142 : decode cX4_init 142 = .ok (.iload_n 1, 1) := by decide +kernel
theorem dX4_init_143 : decode cX4_init 143 = .ok (.iconst (-1), 1) := by decide +kernel
theorem dX4_init_144 : decode cX4_init 144 = .ok (.iastore, 1) := by decide +kernel
theorem dX4_init_145 : decode cX4_init 145 = .ok (.iinc 1 1, 3) := by decide +kernel
theorem dX4_init_148 : decode cX4_init 148 = .ok (.goto (-17), 3) := by decide +kernel
theorem dX4_init_151 : decode cX4_init 151 = .ok (.return_, 1) := by decide +kernel
theorem dX4_copyFrom_0 : decode cX4_copyFrom 0 = .ok (.aload_n 1, 1) := by decide +kernel
theorem dX4_copyFrom_1 : decode cX4_copyFrom 1 = .ok (.getfield 9, 3) := by decide +kernel
theorem dX4_copyFrom_4 : decode cX4_copyFrom 4 = .ok (.iconst 0, 1) := by decide +kernel
theorem dX4_copyFrom_5 : decode cX4_copyFrom 5 = .ok (.aload_n 0, 1) := by decide +kernel
theorem dX4_copyFrom_6 : decode cX4_copyFrom 6 = .ok (.getfield 9, 3) := by decide +kernel
theorem dX4_copyFrom_9 : decode cX4_copyFrom 9 = .ok (.iconst 0, 1) := by decide +kernel
theorem dX4_copyFrom_10 : decode cX4_copyFrom 10 = .ok (.bipush 20, 2) := by decide +kernel
theorem dX4_copyFrom_12 : decode cX4_copyFrom 12 = .ok (.invokestatic 46, 3) := by decide +kernel
theorem dX4_copyFrom_15 : decode cX4_copyFrom 15 = .ok (.aload_n 1, 1) := by decide +kernel
theorem dX4_copyFrom_16 : decode cX4_copyFrom 16 = .ok (.getfield 15, 3) := by decide +kernel
theorem dX4_copyFrom_19 : decode cX4_copyFrom 19 = .ok (.iconst 0, 1) := by decide +kernel
theorem dX4_copyFrom_20 : decode cX4_copyFrom 20 = .ok (.aload_n 0, 1) := by decide +kernel
theorem dX4_copyFrom_21 : decode cX4_copyFrom 21 = .ok (.getfield 15, 3) := by decide +kernel
theorem dX4_copyFrom_24 : decode cX4_copyFrom 24 = .ok (.iconst 0, 1) := by decide +kernel
theorem dX4_copyFrom_25 : decode cX4_copyFrom 25 = .ok (.bipush 20, 2) := by decide +kernel
theorem dX4_copyFrom_27 : decode cX4_copyFrom 27 = .ok (.invokestatic 46, 3) := by decide +kernel
theorem dX4_copyFrom_30 : decode cX4_copyFrom 30 = .ok (.aload_n 1, 1) := by decide +kernel
theorem dX4_copyFrom_31 : decode cX4_copyFrom 31 = .ok (.getfield 18, 3) := by decide +kernel
theorem dX4_copyFrom_34 : decode cX4_copyFrom 34 = .ok (.iconst 0, 1) := by decide +kernel
theorem dX4_copyFrom_35 : decode cX4_copyFrom 35 = .ok (.aload_n 0, 1) := by decide +kernel
theorem dX4_copyFrom_36 : decode cX4_copyFrom 36 = .ok (.getfield 18, 3) := by decide +kernel
theorem dX4_copyFrom_39 : decode cX4_copyFrom 39 = .ok (.iconst 0, 1) := by decide +kernel
theorem dX4_copyFrom_40 : decode cX4_copyFrom 40 = .ok (.bipush 20, 2) := by decide +kernel
theorem dX4_copyFrom_42 : decode cX4_copyFrom 42 = .ok (.invokestatic 46, 3) := by decide +kernel
theorem dX4_copyFrom_45 : decode cX4_copyFrom 45 = .ok (.aload_n 1, 1) := by decide +kernel
theorem dX4_copyFrom_46 : decode cX4_copyFrom 46 = .ok (.getfield 21, 3) := by decide +kernel
theorem dX4_copyFrom_49 : decode cX4_copyFrom 49 = .ok (.iconst 0, 1) := by decide +kernel
theorem dX4_copyFrom_50 : decode cX4_copyFrom 50 = .ok (.aload_n 0, 1) := by decide +kernel
theorem dX4_copyFrom_51 : decode cX4_copyFrom 51 = .ok (.getfield 21, 3) := by decide +kernel
theorem dX4_copyFrom_54 : decode cX4_copyFrom 54 = .ok (.iconst 0, 1) := by decide +kernel
theorem dX4_copyFrom_55 : decode cX4_copyFrom 55 = .ok (.bipush 20, 2) := by decide +kernel
theorem dX4_copyFrom_57 : decode cX4_copyFrom 57 = .ok (.invokestatic 46, 3) := by decide +kernel
theorem dX4_copyFrom_60 : decode cX4_copyFrom 60 = .ok (.aload_n 1, 1) := by decide +kernel
theorem dX4_copyFrom_61 : decode cX4_copyFrom 61 = .ok (.getfield 24, 3) := by decide +kernel
theorem dX4_copyFrom_64 : decode cX4_copyFrom 64 = .ok (.iconst 0, 1) := by decide +kernel
theorem dX4_copyFrom_65 : decode cX4_copyFrom 65 = .ok (.aload_n 0, 1) := by decide +kernel
theorem dX4_copyFrom_66 : decode cX4_copyFrom 66 = .ok (.getfield 24, 3) := by decide +kernel
theorem dX4_copyFrom_69 : decode cX4_copyFrom 69 = .ok (.iconst 0, 1) := by decide +kernel
theorem dX4_copyFrom_70 : decode cX4_copyFrom 70 = .ok (.bipush 20, 2) := by decide +kernel
theorem dX4_copyFrom_72 : decode cX4_copyFrom 72 = .ok (.invokestatic 46, 3) := by decide +kernel
theorem dX4_copyFrom_75 : decode cX4_copyFrom 75 = .ok (.aload_n 1, 1) := by decide +kernel
theorem dX4_copyFrom_76 : decode cX4_copyFrom 76 = .ok (.getfield 27, 3) := by decide +kernel
theorem dX4_copyFrom_79 : decode cX4_copyFrom 79 = .ok (.iconst 0, 1) := by decide +kernel
theorem dX4_copyFrom_80 : decode cX4_copyFrom 80 = .ok (.aload_n 0, 1) := by decide +kernel
theorem dX4_copyFrom_81 : decode cX4_copyFrom 81 = .ok (.getfield 27, 3) := by decide +kernel
theorem dX4_copyFrom_84 : decode cX4_copyFrom 84 = .ok (.iconst 0, 1) := by decide +kernel
theorem dX4_copyFrom_85 : decode cX4_copyFrom 85 = .ok (.bipush 20, 2) := by decide +kernel
theorem dX4_copyFrom_87 : decode cX4_copyFrom 87 = .ok (.invokestatic 46, 3) := by decide +kernel
theorem dX4_copyFrom_90 : decode cX4_copyFrom 90 = .ok (.aload_n 1, 1) := by decide +kernel
theorem dX4_copyFrom_91 : decode cX4_copyFrom 91 = .ok (.getfield 30, 3) := by decide +kernel
theorem dX4_copyFrom_94 : decode cX4_copyFrom 94 = .ok (.iconst 0, 1) := by decide +kernel
theorem dX4_copyFrom_95 : decode cX4_copyFrom 95 = .ok (.aload_n 0, 1) := by decide +kernel
theorem dX4_copyFrom_96 : decode cX4_copyFrom 96 = .ok (.getfield 30, 3) := by decide +kernel
theorem dX4_copyFrom_99 : decode cX4_copyFrom 99 = .ok (.iconst 0, 1) := by decide +kernel
theorem dX4_copyFrom_100 : decode cX4_copyFrom 100 = .ok (.sipush 240, 3) := by decide +kernel
theorem dX4_copyFrom_103 : decode cX4_copyFrom 103 = .ok (.invokestatic 46, 3) := by decide +kernel
theorem dX4_copyFrom_106 : decode cX4_copyFrom 106 = .ok (.aload_n 1, 1) := by decide +kernel
theorem dX4_copyFrom_107 : decode cX4_copyFrom 107 = .ok (.getfield 33, 3) := by decide +kernel
theorem dX4_copyFrom_110 : decode cX4_copyFrom 110 = .ok (.iconst 0, 1) := by decide +kernel
theorem dX4_copyFrom_111 : decode cX4_copyFrom 111 = .ok (.aload_n 0, 1) := by decide +kernel
theorem dX4_copyFrom_112 : decode cX4_copyFrom 112 = .ok (.getfield 33, 3) := by decide +kernel
theorem dX4_copyFrom_115 : decode cX4_copyFrom 115 = .ok (.iconst 0, 1) := by decide +kernel
theorem dX4_copyFrom_116 : decode cX4_copyFrom 116 = .ok (.bipush 96, 2) := by decide +kernel
theorem dX4_copyFrom_118 : decode cX4_copyFrom 118 = .ok (.invokestatic 46, 3) := by decide +kernel
theorem dX4_copyFrom_121 : decode cX4_copyFrom 121 = .ok (.aload_n 1, 1) := by decide +kernel
theorem dX4_copyFrom_122 : decode cX4_copyFrom 122 = .ok (.getfield 36, 3) := by decide +kernel
theorem dX4_copyFrom_125 : decode cX4_copyFrom 125 = .ok (.iconst 0, 1) := by decide +kernel
theorem dX4_copyFrom_126 : decode cX4_copyFrom 126 = .ok (.aload_n 0, 1) := by decide +kernel
theorem dX4_copyFrom_127 : decode cX4_copyFrom 127 = .ok (.getfield 36, 3) := by decide +kernel
theorem dX4_copyFrom_130 : decode cX4_copyFrom 130 = .ok (.iconst 0, 1) := by decide +kernel
theorem dX4_copyFrom_131 : decode cX4_copyFrom 131 = .ok (.bipush 96, 2) := by decide +kernel
theorem dX4_copyFrom_133 : decode cX4_copyFrom 133 = .ok (.invokestatic 46, 3) := by decide +kernel
theorem dX4_copyFrom_136 : decode cX4_copyFrom 136 = .ok (.aload_n 0, 1) := by decide +kernel
theorem dX4_copyFrom_137 : decode cX4_copyFrom 137 = .ok (.aload_n 1, 1) := by decide +kernel
theorem dX4_copyFrom_138 : decode cX4_copyFrom 138 = .ok (.getfield 39, 3) := by decide +kernel
theorem dX4_copyFrom_141 : decode cX4_copyFrom 141 = .ok (.putfield 39, 3) := by decide +kernel
theorem dX4_copyFrom_144 : decode cX4_copyFrom 144 = .ok (.aload_n 0, 1) := by decide +kernel
theorem dX4_copyFrom_145 : decode cX4_copyFrom 145 = .ok (.aload_n 1, 1) := by decide +kernel
theorem dX4_copyFrom_146 : decode cX4_copyFrom 146 = .ok (.getfield 43, 3) := by decide +kernel
theorem dX4_copyFrom_149 : decode cX4_copyFrom 149 = .ok (.putfield 43, 3) := by decide +kernel
theorem dX4_copyFrom_152 : decode cX4_copyFrom 152 = .ok (.return_, 1) := by decide +kernel
theorem dX4_kindOf_0 : decode cX4_kindOf 0 = .ok (.iload_n 1, 1) := by decide +kernel
theorem dX4_kindOf_1 : decode cX4_kindOf 1 = .ok (.ifCond .lt 18, 3) := by decide +kernel
theorem dX4_kindOf_4 : decode cX4_kindOf 4 = .ok (.iload_n 1, 1) := by decide +kernel
theorem dX4_kindOf_5 : decode cX4_kindOf 5 = .ok (.bipush 20, 2) := by decide +kernel
theorem dX4_kindOf_7 : decode cX4_kindOf 7 = .ok (.if_icmp .ge 12, 3) := by decide +kernel
theorem dX4_kindOf_10 : decode cX4_kindOf 10 = .ok (.aload_n 0, 1) := by decide +kernel
theorem dX4_kindOf_11 : decode cX4_kindOf 11 = .ok (.getfield 9, 3) := by decide +kernel
theorem dX4_kindOf_14 : decode cX4_kindOf 14 = .ok (.iload_n 1, 1) := by decide +kernel
theorem dX4_kindOf_15 : decode cX4_kindOf 15 = .ok (.iaload, 1) := by decide +kernel
theorem dX4_kindOf_16 : decode cX4_kindOf 16 = .ok (.goto 4, 3) := by decide +kernel
theorem dX4_kindOf_19 : decode cX4_kindOf 19 = .ok (.iconst (-1), 1) := by decide +kernel
theorem dX4_kindOf_20 : decode cX4_kindOf 20 = .ok (.ireturn, 1) := by decide +kernel
theorem dX4_madeOf_0 : decode cX4_madeOf 0 = .ok (.iload_n 1, 1) := by decide +kernel
theorem dX4_madeOf_1 : decode cX4_madeOf 1 = .ok (.ifCond .lt 18, 3) := by decide +kernel
theorem dX4_madeOf_4 : decode cX4_madeOf 4 = .ok (.iload_n 1, 1) := by decide +kernel
theorem dX4_madeOf_5 : decode cX4_madeOf 5 = .ok (.bipush 20, 2) := by decide +kernel
theorem dX4_madeOf_7 : decode cX4_madeOf 7 = .ok (.if_icmp .ge 12, 3) := by decide +kernel
theorem dX4_madeOf_10 : decode cX4_madeOf 10 = .ok (.aload_n 0, 1) := by decide +kernel
theorem dX4_madeOf_11 : decode cX4_madeOf 11 = .ok (.getfield 15, 3) := by decide +kernel
theorem dX4_madeOf_14 : decode cX4_madeOf 14 = .ok (.iload_n 1, 1) := by decide +kernel
theorem dX4_madeOf_15 : decode cX4_madeOf 15 = .ok (.iaload, 1) := by decide +kernel
theorem dX4_madeOf_16 : decode cX4_madeOf 16 = .ok (.goto 4, 3) := by decide +kernel
theorem dX4_madeOf_19 : decode cX4_madeOf 19 = .ok (.iconst 0, 1) := by decide +kernel
theorem dX4_madeOf_20 : decode cX4_madeOf 20 = .ok (.ireturn, 1) := by decide +kernel
theorem dX4_prevOf_0 : decode cX4_prevOf 0 = .ok (.iload_n 1, 1) := by decide +kernel
theorem dX4_prevOf_1 : decode cX4_prevOf 1 = .ok (.ifCond .lt 18, 3) := by decide +kernel
theorem dX4_prevOf_4 : decode cX4_prevOf 4 = .ok (.iload_n 1, 1) := by decide +kernel
theorem dX4_prevOf_5 : decode cX4_prevOf 5 = .ok (.bipush 20, 2) := by decide +kernel
theorem dX4_prevOf_7 : decode cX4_prevOf 7 = .ok (.if_icmp .ge 12, 3) := by decide +kernel
theorem dX4_prevOf_10 : decode cX4_prevOf 10 = .ok (.aload_n 0, 1) := by decide +kernel
theorem dX4_prevOf_11 : decode cX4_prevOf 11 = .ok (.getfield 18, 3) := by decide +kernel
theorem dX4_prevOf_14 : decode cX4_prevOf 14 = .ok (.iload_n 1, 1) := by decide +kernel
theorem dX4_prevOf_15 : decode cX4_prevOf 15 = .ok (.iaload, 1) := by decide +kernel
theorem dX4_prevOf_16 : decode cX4_prevOf 16 = .ok (.goto 4, 3) := by decide +kernel
theorem dX4_prevOf_19 : decode cX4_prevOf 19 = .ok (.iconst (-1), 1) := by decide +kernel
theorem dX4_prevOf_20 : decode cX4_prevOf 20 = .ok (.ireturn, 1) := by decide +kernel
theorem dX4_ownerOf_0 : decode cX4_ownerOf 0 = .ok (.iload_n 1, 1) := by decide +kernel
theorem dX4_ownerOf_1 : decode cX4_ownerOf 1 = .ok (.ifCond .lt 18, 3) := by decide +kernel
theorem dX4_ownerOf_4 : decode cX4_ownerOf 4 = .ok (.iload_n 1, 1) := by decide +kernel
theorem dX4_ownerOf_5 : decode cX4_ownerOf 5 = .ok (.bipush 20, 2) := by decide +kernel
theorem dX4_ownerOf_7 : decode cX4_ownerOf 7 = .ok (.if_icmp .ge 12, 3) := by decide +kernel
theorem dX4_ownerOf_10 : decode cX4_ownerOf 10 = .ok (.aload_n 0, 1) := by decide +kernel
theorem dX4_ownerOf_11 : decode cX4_ownerOf 11 = .ok (.getfield 21, 3) := by decide +kernel
theorem dX4_ownerOf_14 : decode cX4_ownerOf 14 = .ok (.iload_n 1, 1) := by decide +kernel
theorem dX4_ownerOf_15 : decode cX4_ownerOf 15 = .ok (.iaload, 1) := by decide +kernel
theorem dX4_ownerOf_16 : decode cX4_ownerOf 16 = .ok (.goto 4, 3) := by decide +kernel
theorem dX4_ownerOf_19 : decode cX4_ownerOf 19 = .ok (.iconst (-1), 1) := by decide +kernel
theorem dX4_ownerOf_20 : decode cX4_ownerOf 20 = .ok (.ireturn, 1) := by decide +kernel
theorem dX4_tagsOf_0 : decode cX4_tagsOf 0 = .ok (.iload_n 1, 1) := by decide +kernel
theorem dX4_tagsOf_1 : decode cX4_tagsOf 1 = .ok (.ifCond .lt 18, 3) := by decide +kernel
theorem dX4_tagsOf_4 : decode cX4_tagsOf 4 = .ok (.iload_n 1, 1) := by decide +kernel
theorem dX4_tagsOf_5 : decode cX4_tagsOf 5 = .ok (.bipush 20, 2) := by decide +kernel
theorem dX4_tagsOf_7 : decode cX4_tagsOf 7 = .ok (.if_icmp .ge 12, 3) := by decide +kernel
theorem dX4_tagsOf_10 : decode cX4_tagsOf 10 = .ok (.aload_n 0, 1) := by decide +kernel
theorem dX4_tagsOf_11 : decode cX4_tagsOf 11 = .ok (.getfield 24, 3) := by decide +kernel
theorem dX4_tagsOf_14 : decode cX4_tagsOf 14 = .ok (.iload_n 1, 1) := by decide +kernel
theorem dX4_tagsOf_15 : decode cX4_tagsOf 15 = .ok (.iaload, 1) := by decide +kernel
theorem dX4_tagsOf_16 : decode cX4_tagsOf 16 = .ok (.goto 4, 3) := by decide +kernel
theorem dX4_tagsOf_19 : decode cX4_tagsOf 19 = .ok (.iconst 0, 1) := by decide +kernel
theorem dX4_tagsOf_20 : decode cX4_tagsOf 20 = .ok (.ireturn, 1) := by decide +kernel
theorem dX4_quotaOf_0 : decode cX4_quotaOf 0 = .ok (.iload_n 1, 1) := by decide +kernel
theorem dX4_quotaOf_1 : decode cX4_quotaOf 1 = .ok (.ifCond .lt 18, 3) := by decide +kernel
theorem dX4_quotaOf_4 : decode cX4_quotaOf 4 = .ok (.iload_n 1, 1) := by decide +kernel
theorem dX4_quotaOf_5 : decode cX4_quotaOf 5 = .ok (.bipush 20, 2) := by decide +kernel
theorem dX4_quotaOf_7 : decode cX4_quotaOf 7 = .ok (.if_icmp .ge 12, 3) := by decide +kernel
theorem dX4_quotaOf_10 : decode cX4_quotaOf 10 = .ok (.aload_n 0, 1) := by decide +kernel
theorem dX4_quotaOf_11 : decode cX4_quotaOf 11 = .ok (.getfield 27, 3) := by decide +kernel
theorem dX4_quotaOf_14 : decode cX4_quotaOf 14 = .ok (.iload_n 1, 1) := by decide +kernel
theorem dX4_quotaOf_15 : decode cX4_quotaOf 15 = .ok (.iaload, 1) := by decide +kernel
theorem dX4_quotaOf_16 : decode cX4_quotaOf 16 = .ok (.goto 4, 3) := by decide +kernel
theorem dX4_quotaOf_19 : decode cX4_quotaOf 19 = .ok (.iconst (-1), 1) := by decide +kernel
theorem dX4_quotaOf_20 : decode cX4_quotaOf 20 = .ok (.ireturn, 1) := by decide +kernel
theorem dX4_blockIn_0 : decode cX4_blockIn 0 = .ok (.iload_n 1, 1) := by decide +kernel
theorem dX4_blockIn_1 : decode cX4_blockIn 1 = .ok (.ifCond .lt 33, 3) := by decide +kernel
theorem dX4_blockIn_4 : decode cX4_blockIn 4 = .ok (.iload_n 1, 1) := by decide +kernel
theorem dX4_blockIn_5 : decode cX4_blockIn 5 = .ok (.bipush 20, 2) := by decide +kernel
theorem dX4_blockIn_7 : decode cX4_blockIn 7 = .ok (.if_icmp .ge 27, 3) := by decide +kernel
theorem dX4_blockIn_10 : decode cX4_blockIn 10 = .ok (.iload_n 2, 1) := by decide +kernel
theorem dX4_blockIn_11 : decode cX4_blockIn 11 = .ok (.ifCond .lt 23, 3) := by decide +kernel
theorem dX4_blockIn_14 : decode cX4_blockIn 14 = .ok (.iload_n 2, 1) := by decide +kernel
theorem dX4_blockIn_15 : decode cX4_blockIn 15 = .ok (.bipush 12, 2) := by decide +kernel
theorem dX4_blockIn_17 : decode cX4_blockIn 17 = .ok (.if_icmp .ge 17, 3) := by decide +kernel
theorem dX4_blockIn_20 : decode cX4_blockIn 20 = .ok (.aload_n 0, 1) := by decide +kernel
theorem dX4_blockIn_21 : decode cX4_blockIn 21 = .ok (.getfield 30, 3) := by decide +kernel
theorem dX4_blockIn_24 : decode cX4_blockIn 24 = .ok (.iload_n 1, 1) := by decide +kernel
theorem dX4_blockIn_25 : decode cX4_blockIn 25 = .ok (.bipush 12, 2) := by decide +kernel
theorem dX4_blockIn_27 : decode cX4_blockIn 27 = .ok (.imul, 1) := by decide +kernel
theorem dX4_blockIn_28 : decode cX4_blockIn 28 = .ok (.iload_n 2, 1) := by decide +kernel
theorem dX4_blockIn_29 : decode cX4_blockIn 29 = .ok (.iadd, 1) := by decide +kernel
theorem dX4_blockIn_30 : decode cX4_blockIn 30 = .ok (.iaload, 1) := by decide +kernel
theorem dX4_blockIn_31 : decode cX4_blockIn 31 = .ok (.goto 4, 3) := by decide +kernel
theorem dX4_blockIn_34 : decode cX4_blockIn 34 = .ok (.iconst (-1), 1) := by decide +kernel
theorem dX4_blockIn_35 : decode cX4_blockIn 35 = .ok (.ireturn, 1) := by decide +kernel
set_option maxRecDepth 20000 in
theorem ggX4_isFiles_X4_kindOf : GoodIn wsX4_isFiles wsX4_kindOf := goodIn_r _ [5, 6, 7, 8, 9, 10, 11, 12, 13, 14, 15, 16, 17] (by decide +kernel) (by decide +kernel)
set_option maxRecDepth 20000 in
theorem gX4_isFiles_X4_kindOf : GoodIn wsX4_isFiles (wsV RX4 52 RX4 yX4_kindOf wsX4_kindOf) := goodIn_app (goodIn_of _ (by decide +kernel)) ggX4_isFiles_X4_kindOf
theorem dX4_isFiles_0 : decode cX4_isFiles 0 = .ok (.aload_n 0, 1) := by decide +kernel
theorem dX4_isFiles_1 : decode cX4_isFiles 1 = .ok (.iload_n 1, 1) := by decide +kernel
theorem dX4_isFiles_2 : decode cX4_isFiles 2 = .ok (.invokevirtual 52, 3) := by decide +kernel
theorem dX4_isFiles_5 : decode cX4_isFiles 5 = .ok (.istore_n 2, 1) := by decide +kernel
theorem dX4_isFiles_6 : decode cX4_isFiles 6 = .ok (.iload_n 2, 1) := by decide +kernel
theorem dX4_isFiles_7 : decode cX4_isFiles 7 = .ok (.ifCond .eq 8, 3) := by decide +kernel
theorem dX4_isFiles_10 : decode cX4_isFiles 10 = .ok (.iload_n 2, 1) := by decide +kernel
theorem dX4_isFiles_11 : decode cX4_isFiles 11 = .ok (.iconst 1, 1) := by decide +kernel
theorem dX4_isFiles_12 : decode cX4_isFiles 12 = .ok (.if_icmp .ne 7, 3) := by decide +kernel
theorem dX4_isFiles_15 : decode cX4_isFiles 15 = .ok (.iconst 1, 1) := by decide +kernel
theorem dX4_isFiles_16 : decode cX4_isFiles 16 = .ok (.goto 4, 3) := by decide +kernel
theorem dX4_isFiles_19 : decode cX4_isFiles 19 = .ok (.iconst 0, 1) := by decide +kernel
theorem dX4_isFiles_20 : decode cX4_isFiles 20 = .ok (.ireturn, 1) := by decide +kernel
set_option maxRecDepth 20000 in
theorem ggX4_isSnapshot_X4_kindOf : GoodIn wsX4_isSnapshot wsX4_kindOf := goodIn_r _ [5, 6, 7, 8, 9, 10, 11, 12, 13, 14, 15, 16, 17] (by decide +kernel) (by decide +kernel)
set_option maxRecDepth 20000 in
theorem gX4_isSnapshot_X4_kindOf : GoodIn wsX4_isSnapshot (wsV RX4 52 RX4 yX4_kindOf wsX4_kindOf) := goodIn_app (goodIn_of _ (by decide +kernel)) ggX4_isSnapshot_X4_kindOf
theorem dX4_isSnapshot_0 : decode cX4_isSnapshot 0 = .ok (.aload_n 0, 1) := by decide +kernel
theorem dX4_isSnapshot_1 : decode cX4_isSnapshot 1 = .ok (.iload_n 1, 1) := by decide +kernel
theorem dX4_isSnapshot_2 : decode cX4_isSnapshot 2 = .ok (.invokevirtual 52, 3) := by decide +kernel
theorem dX4_isSnapshot_5 : decode cX4_isSnapshot 5 = .ok (.istore_n 2, 1) := by decide +kernel
theorem dX4_isSnapshot_6 : decode cX4_isSnapshot 6 = .ok (.iload_n 2, 1) := by decide +kernel
theorem dX4_isSnapshot_7 : decode cX4_isSnapshot 7 = .ok (.iconst 2, 1) := by decide +kernel
theorem dX4_isSnapshot_8 : decode cX4_isSnapshot 8 = .ok (.if_icmp .eq 8, 3) := by decide +kernel
theorem dX4_isSnapshot_11 : decode cX4_isSnapshot 11 = .ok (.iload_n 2, 1) := by decide +kernel
theorem dX4_isSnapshot_12 : decode cX4_isSnapshot 12 = .ok (.iconst 3, 1) := by decide +kernel
theorem dX4_isSnapshot_13 : decode cX4_isSnapshot 13 = .ok (.if_icmp .ne 7, 3) := by decide +kernel
theorem dX4_isSnapshot_16 : decode cX4_isSnapshot 16 = .ok (.iconst 1, 1) := by decide +kernel
theorem dX4_isSnapshot_17 : decode cX4_isSnapshot 17 = .ok (.goto 4, 3) := by decide +kernel
theorem dX4_isSnapshot_20 : decode cX4_isSnapshot 20 = .ok (.iconst 0, 1) := by decide +kernel
theorem dX4_isSnapshot_21 : decode cX4_isSnapshot 21 = .ok (.ireturn, 1) := by decide +kernel
set_option maxRecDepth 20000 in
theorem ggX4_isHolder_X4_kindOf : GoodIn wsX4_isHolder wsX4_kindOf := goodIn_r _ [5, 6, 7, 8, 9, 10, 11, 12, 13, 14, 15, 16, 17] (by decide +kernel) (by decide +kernel)
set_option maxRecDepth 20000 in
theorem gX4_isHolder_X4_kindOf : GoodIn wsX4_isHolder (wsV RX4 52 RX4 yX4_kindOf wsX4_kindOf) := goodIn_app (goodIn_of _ (by decide +kernel)) ggX4_isHolder_X4_kindOf
theorem dX4_isHolder_0 : decode cX4_isHolder 0 = .ok (.aload_n 0, 1) := by decide +kernel
theorem dX4_isHolder_1 : decode cX4_isHolder 1 = .ok (.iload_n 1, 1) := by decide +kernel
theorem dX4_isHolder_2 : decode cX4_isHolder 2 = .ok (.invokevirtual 52, 3) := by decide +kernel
theorem dX4_isHolder_5 : decode cX4_isHolder 5 = .ok (.istore_n 2, 1) := by decide +kernel
theorem dX4_isHolder_6 : decode cX4_isHolder 6 = .ok (.iload_n 2, 1) := by decide +kernel
theorem dX4_isHolder_7 : decode cX4_isHolder 7 = .ok (.iconst (-1), 1) := by decide +kernel
theorem dX4_isHolder_8 : decode cX4_isHolder 8 = .ok (.if_icmp .eq 12, 3) := by decide +kernel
theorem dX4_isHolder_11 : decode cX4_isHolder 11 = .ok (.iload_n 2, 1) := by decide +kernel
theorem dX4_isHolder_12 : decode cX4_isHolder 12 = .ok (.iconst 4, 1) := by decide +kernel
theorem dX4_isHolder_13 : decode cX4_isHolder 13 = .ok (.if_icmp .eq 7, 3) := by decide +kernel
theorem dX4_isHolder_16 : decode cX4_isHolder 16 = .ok (.iconst 1, 1) := by decide +kernel
theorem dX4_isHolder_17 : decode cX4_isHolder 17 = .ok (.goto 4, 3) := by decide +kernel
theorem dX4_isHolder_20 : decode cX4_isHolder 20 = .ok (.iconst 0, 1) := by decide +kernel
theorem dX4_isHolder_21 : decode cX4_isHolder 21 = .ok (.ireturn, 1) := by decide +kernel
set_option maxRecDepth 20000 in
theorem ggX4_spaceOf_X4_blockIn : GoodIn wsX4_spaceOf wsX4_blockIn := goodIn_r _ [5, 6, 12, 13, 14, 15, 16, 17, 18, 19, 20, 21, 22] (by decide +kernel) (by decide +kernel)
set_option maxRecDepth 20000 in
theorem gX4_spaceOf_X4_blockIn : GoodIn wsX4_spaceOf (wsV RX4 56 RX4 yX4_blockIn wsX4_blockIn) := goodIn_app (goodIn_of _ (by decide +kernel)) ggX4_spaceOf_X4_blockIn
set_option maxRecDepth 20000 in
theorem ggX4_spaceOf_X4_sizeOf : GoodIn wsX4_spaceOf wsX4_sizeOf := goodIn_r _ [10, 11, 12, 13, 14, 15, 16, 17, 18, 19, 20, 21, 22] (by decide +kernel) (by decide +kernel)
set_option maxRecDepth 20000 in
theorem gX4_spaceOf_X4_sizeOf : GoodIn wsX4_spaceOf (wsV RX4 60 RX4 yX4_sizeOf wsX4_sizeOf) := goodIn_app (goodIn_of _ (by decide +kernel)) ggX4_spaceOf_X4_sizeOf
theorem dX4_spaceOf_0 : decode cX4_spaceOf 0 = .ok (.lconst 0, 1) := by decide +kernel
theorem dX4_spaceOf_1 : decode cX4_spaceOf 1 = .ok (.lstore_n 2, 1) := by decide +kernel
theorem dX4_spaceOf_2 : decode cX4_spaceOf 2 = .ok (.iconst 0, 1) := by decide +kernel
theorem dX4_spaceOf_3 : decode cX4_spaceOf 3 = .ok (.istore 4, 2) := by decide +kernel
theorem dX4_spaceOf_5 : decode cX4_spaceOf 5 = .ok (.iload 4, 2) := by decide +kernel
theorem dX4_spaceOf_7 : decode cX4_spaceOf 7 = .ok (.bipush 12, 2) := by decide +kernel
theorem dX4_spaceOf_9 : decode cX4_spaceOf 9 = .ok (.if_icmp .ge 24, 3) := by decide +kernel
theorem dX4_spaceOf_12 : decode cX4_spaceOf 12 = .ok (.lload_n 2, 1) := by decide +kernel
theorem dX4_spaceOf_13 : decode cX4_spaceOf 13 = .ok (.aload_n 0, 1) := by decide +kernel
theorem dX4_spaceOf_14 : decode cX4_spaceOf 14 = .ok (.aload_n 0, 1) := by decide +kernel
theorem dX4_spaceOf_15 : decode cX4_spaceOf 15 = .ok (.iload_n 1, 1) := by decide +kernel
theorem dX4_spaceOf_16 : decode cX4_spaceOf 16 = .ok (.iload 4, 2) := by decide +kernel
theorem dX4_spaceOf_18 : decode cX4_spaceOf 18 = .ok (.invokevirtual 56, 3) := by decide +kernel
theorem dX4_spaceOf_21 : decode cX4_spaceOf 21 = .ok (.invokevirtual 60, 3) := by decide +kernel
theorem dX4_spaceOf_24 : decode cX4_spaceOf 24 = .ok (.i2l, 1) := by decide +kernel
theorem dX4_spaceOf_25 : decode cX4_spaceOf 25 = .ok (.ladd, 1) := by decide +kernel
theorem dX4_spaceOf_26 : decode cX4_spaceOf 26 = .ok (.lstore_n 2, 1) := by decide +kernel
theorem dX4_spaceOf_27 : decode cX4_spaceOf 27 = .ok (.iinc 4 1, 3) := by decide +kernel
theorem dX4_spaceOf_30 : decode cX4_spaceOf 30 = .ok (.goto (-25), 3) := by decide +kernel
theorem dX4_spaceOf_33 : decode cX4_spaceOf 33 = .ok (.lload_n 2, 1) := by decide +kernel
theorem dX4_spaceOf_34 : decode cX4_spaceOf 34 = .ok (.lreturn, 1) := by decide +kernel
theorem dX4_refusalOfNumber_0 : decode cX4_refusalOfNumber 0 = .ok (.iload_n 1, 1) := by decide +kernel
theorem dX4_refusalOfNumber_1 : decode cX4_refusalOfNumber 1 = .ok (.ifCond .lt 9, 3) := by decide +kernel
theorem dX4_refusalOfNumber_4 : decode cX4_refusalOfNumber 4 = .ok (.iload_n 1, 1) := by decide +kernel
theorem dX4_refusalOfNumber_5 : decode cX4_refusalOfNumber 5 = .ok (.bipush 20, 2) := by decide +kernel
theorem dX4_refusalOfNumber_7 : decode cX4_refusalOfNumber 7 = .ok (.if_icmp .lt 6, 3) := by decide +kernel
theorem dX4_refusalOfNumber_10 : decode cX4_refusalOfNumber 10 = .ok (.bipush (-12), 2) := by decide +kernel
theorem dX4_refusalOfNumber_12 : decode cX4_refusalOfNumber 12 = .ok (.ireturn, 1) := by decide +kernel
theorem dX4_refusalOfNumber_13 : decode cX4_refusalOfNumber 13 = .ok (.aload_n 0, 1) := by decide +kernel
theorem dX4_refusalOfNumber_14 : decode cX4_refusalOfNumber 14 = .ok (.getfield 9, 3) := by decide +kernel
theorem dX4_refusalOfNumber_17 : decode cX4_refusalOfNumber 17 = .ok (.iload_n 1, 1) := by decide +kernel
theorem dX4_refusalOfNumber_18 : decode cX4_refusalOfNumber 18 = .ok (.iaload, 1) := by decide +kernel
theorem dX4_refusalOfNumber_19 : decode cX4_refusalOfNumber 19 = .ok (.iconst (-1), 1) := by decide +kernel
theorem dX4_refusalOfNumber_20 : decode cX4_refusalOfNumber 20 = .ok (.if_icmp .ne 8, 3) := by decide +kernel
theorem dX4_refusalOfNumber_23 : decode cX4_refusalOfNumber 23 = .ok (.bipush (-11), 2) := by decide +kernel
theorem dX4_refusalOfNumber_25 : decode cX4_refusalOfNumber 25 = .ok (.goto 4, 3) := by decide +kernel
theorem dX4_refusalOfNumber_28 : decode cX4_refusalOfNumber 28 = .ok (.iconst 0, 1) := by decide +kernel
theorem dX4_refusalOfNumber_29 : decode cX4_refusalOfNumber 29 = .ok (.ireturn, 1) := by decide +kernel
set_option maxRecDepth 20000 in
theorem ggX4_refusalAs_X4_refusalOfNumber : GoodIn wsX4_refusalAs wsX4_refusalOfNumber := goodIn_r _ [5, 6, 11, 12, 13, 14, 15, 16, 17, 18, 19, 20, 21] (by decide +kernel) (by decide +kernel)
set_option maxRecDepth 20000 in
theorem gX4_refusalAs_X4_refusalOfNumber : GoodIn wsX4_refusalAs (wsV RX4 63 RX4 yX4_refusalOfNumber wsX4_refusalOfNumber) := goodIn_app (goodIn_of _ (by decide +kernel)) ggX4_refusalAs_X4_refusalOfNumber
set_option maxRecDepth 20000 in
theorem ggX4_refusalAs_X4_kindOf : GoodIn wsX4_refusalAs wsX4_kindOf := goodIn_r _ [10, 6, 11, 12, 13, 14, 15, 16, 17, 18, 19, 20, 21] (by decide +kernel) (by decide +kernel)
set_option maxRecDepth 20000 in
theorem gX4_refusalAs_X4_kindOf : GoodIn wsX4_refusalAs (wsV RX4 52 RX4 yX4_kindOf wsX4_kindOf) := goodIn_app (goodIn_of _ (by decide +kernel)) ggX4_refusalAs_X4_kindOf
theorem dX4_refusalAs_0 : decode cX4_refusalAs 0 = .ok (.aload_n 0, 1) := by decide +kernel
theorem dX4_refusalAs_1 : decode cX4_refusalAs 1 = .ok (.iload_n 1, 1) := by decide +kernel
theorem dX4_refusalAs_2 : decode cX4_refusalAs 2 = .ok (.invokevirtual 63, 3) := by decide +kernel
theorem dX4_refusalAs_5 : decode cX4_refusalAs 5 = .ok (.istore_n 3, 1) := by decide +kernel
theorem dX4_refusalAs_6 : decode cX4_refusalAs 6 = .ok (.iload_n 3, 1) := by decide +kernel
theorem dX4_refusalAs_7 : decode cX4_refusalAs 7 = .ok (.ifCond .eq 5, 3) := by decide +kernel
theorem dX4_refusalAs_10 : decode cX4_refusalAs 10 = .ok (.iload_n 3, 1) := by decide +kernel
theorem dX4_refusalAs_11 : decode cX4_refusalAs 11 = .ok (.ireturn, 1) := by decide +kernel
theorem dX4_refusalAs_12 : decode cX4_refusalAs 12 = .ok (.aload_n 0, 1) := by decide +kernel
theorem dX4_refusalAs_13 : decode cX4_refusalAs 13 = .ok (.iload_n 1, 1) := by decide +kernel
theorem dX4_refusalAs_14 : decode cX4_refusalAs 14 = .ok (.invokevirtual 52, 3) := by decide +kernel
theorem dX4_refusalAs_17 : decode cX4_refusalAs 17 = .ok (.istore 4, 2) := by decide +kernel
theorem dX4_refusalAs_19 : decode cX4_refusalAs 19 = .ok (.iload 4, 2) := by decide +kernel
theorem dX4_refusalAs_21 : decode cX4_refusalAs 21 = .ok (.iload_n 2, 1) := by decide +kernel
theorem dX4_refusalAs_22 : decode cX4_refusalAs 22 = .ok (.if_icmp .eq 24, 3) := by decide +kernel
theorem dX4_refusalAs_25 : decode cX4_refusalAs 25 = .ok (.iload 4, 2) := by decide +kernel
theorem dX4_refusalAs_27 : decode cX4_refusalAs 27 = .ok (.iconst 1, 1) := by decide +kernel
theorem dX4_refusalAs_28 : decode cX4_refusalAs 28 = .ok (.if_icmp .ne 7, 3) := by decide +kernel
theorem dX4_refusalAs_31 : decode cX4_refusalAs 31 = .ok (.iload_n 2, 1) := by decide +kernel
theorem dX4_refusalAs_32 : decode cX4_refusalAs 32 = .ok (.ifCond .eq 14, 3) := by decide +kernel
theorem dX4_refusalAs_35 : decode cX4_refusalAs 35 = .ok (.iload 4, 2) := by decide +kernel
theorem dX4_refusalAs_37 : decode cX4_refusalAs 37 = .ok (.iconst 3, 1) := by decide +kernel
theorem dX4_refusalAs_38 : decode cX4_refusalAs 38 = .ok (.if_icmp .ne 12, 3) := by decide +kernel
theorem dX4_refusalAs_41 : decode cX4_refusalAs 41 = .ok (.iload_n 2, 1) := by decide +kernel
theorem dX4_refusalAs_42 : decode cX4_refusalAs 42 = .ok (.iconst 2, 1) := by decide +kernel
theorem dX4_refusalAs_43 : decode cX4_refusalAs 43 = .ok (.if_icmp .ne 7, 3) := by decide +kernel
theorem dX4_refusalAs_46 : decode cX4_refusalAs 46 = .ok (.iconst 1, 1) := by decide +kernel
theorem dX4_refusalAs_47 : decode cX4_refusalAs 47 = .ok (.goto 4, 3) := by decide +kernel
theorem dX4_refusalAs_50 : decode cX4_refusalAs 50 = .ok (.iconst 0, 1) := by decide +kernel
theorem dX4_refusalAs_51 : decode cX4_refusalAs 51 = .ok (.istore 5, 2) := by decide +kernel
theorem dX4_refusalAs_53 : decode cX4_refusalAs 53 = .ok (.iload 5, 2) := by decide +kernel
theorem dX4_refusalAs_55 : decode cX4_refusalAs 55 = .ok (.ifCond .eq 7, 3) := by decide +kernel
theorem dX4_refusalAs_58 : decode cX4_refusalAs 58 = .ok (.iconst 0, 1) := by decide +kernel
theorem dX4_refusalAs_59 : decode cX4_refusalAs 59 = .ok (.goto 5, 3) := by decide +kernel
theorem dX4_refusalAs_62 : decode cX4_refusalAs 62 = .ok (.bipush (-13), 2) := by decide +kernel
theorem dX4_refusalAs_64 : decode cX4_refusalAs 64 = .ok (.ireturn, 1) := by decide +kernel
set_option maxRecDepth 20000 in
theorem ggX4_refusalAsHolder_X4_refusalOfNumber : GoodIn wsX4_refusalAsHolder wsX4_refusalOfNumber := goodIn_r _ [5, 6, 11, 12, 13, 14, 15, 16, 17, 18, 19, 20, 21] (by decide +kernel) (by decide +kernel)
set_option maxRecDepth 20000 in
theorem gX4_refusalAsHolder_X4_refusalOfNumber : GoodIn wsX4_refusalAsHolder (wsV RX4 63 RX4 yX4_refusalOfNumber wsX4_refusalOfNumber) := goodIn_app (goodIn_of _ (by decide +kernel)) ggX4_refusalAsHolder_X4_refusalOfNumber
set_option maxRecDepth 20000 in
theorem ggX4_refusalAsHolder_X4_kindOf : GoodIn wsX4_refusalAsHolder wsX4_kindOf := goodIn_r _ [10, 6, 11, 12, 13, 14, 15, 16, 17, 18, 19, 20, 21] (by decide +kernel) (by decide +kernel)
set_option maxRecDepth 20000 in
theorem gX4_refusalAsHolder_X4_kindOf : GoodIn wsX4_refusalAsHolder (wsV RX4 52 RX4 yX4_kindOf wsX4_kindOf) := goodIn_app (goodIn_of _ (by decide +kernel)) ggX4_refusalAsHolder_X4_kindOf
theorem dX4_refusalAsHolder_0 : decode cX4_refusalAsHolder 0 = .ok (.aload_n 0, 1) := by decide +kernel
theorem dX4_refusalAsHolder_1 : decode cX4_refusalAsHolder 1 = .ok (.iload_n 1, 1) := by decide +kernel
theorem dX4_refusalAsHolder_2 : decode cX4_refusalAsHolder 2 = .ok (.invokevirtual 63, 3) := by decide +kernel
theorem dX4_refusalAsHolder_5 : decode cX4_refusalAsHolder 5 = .ok (.istore_n 2, 1) := by decide +kernel
theorem dX4_refusalAsHolder_6 : decode cX4_refusalAsHolder 6 = .ok (.iload_n 2, 1) := by decide +kernel
theorem dX4_refusalAsHolder_7 : decode cX4_refusalAsHolder 7 = .ok (.ifCond .eq 5, 3) := by decide +kernel
theorem dX4_refusalAsHolder_10 : decode cX4_refusalAsHolder 10 = .ok (.iload_n 2, 1) := by decide +kernel
theorem dX4_refusalAsHolder_11 : decode cX4_refusalAsHolder 11 = .ok (.ireturn, 1) := by decide +kernel
theorem dX4_refusalAsHolder_12 : decode cX4_refusalAsHolder 12 = .ok (.aload_n 0, 1) := by decide +kernel
theorem dX4_refusalAsHolder_13 : decode cX4_refusalAsHolder 13 = .ok (.iload_n 1, 1) := by decide +kernel
theorem dX4_refusalAsHolder_14 : decode cX4_refusalAsHolder 14 = .ok (.invokevirtual 52, 3) := by decide +kernel
theorem dX4_refusalAsHolder_17 : decode cX4_refusalAsHolder 17 = .ok (.iconst 4, 1) := by decide +kernel
theorem dX4_refusalAsHolder_18 : decode cX4_refusalAsHolder 18 = .ok (.if_icmp .ne 8, 3) := by decide +kernel
theorem dX4_refusalAsHolder_21 : decode cX4_refusalAsHolder 21 = .ok (.bipush (-13), 2) := by decide +kernel
theorem dX4_refusalAsHolder_23 : decode cX4_refusalAsHolder 23 = .ok (.goto 4, 3) := by decide +kernel
theorem dX4_refusalAsHolder_26 : decode cX4_refusalAsHolder 26 = .ok (.iconst 0, 1) := by decide +kernel
theorem dX4_refusalAsHolder_27 : decode cX4_refusalAsHolder 27 = .ok (.ireturn, 1) := by decide +kernel
set_option maxRecDepth 20000 in
theorem ggX4_inChain_X4_prevOf : GoodIn wsX4_inChain wsX4_prevOf := goodIn_r _ [5, 6, 7, 8, 9, 10, 11, 12, 13, 14, 15, 16, 17] (by decide +kernel) (by decide +kernel)
set_option maxRecDepth 20000 in
theorem gX4_inChain_X4_prevOf : GoodIn wsX4_inChain (wsV RX4 66 RX4 yX4_prevOf wsX4_prevOf) := goodIn_app (goodIn_of _ (by decide +kernel)) ggX4_inChain_X4_prevOf
theorem dX4_inChain_0 : decode cX4_inChain 0 = .ok (.iload_n 2, 1) := by decide +kernel
theorem dX4_inChain_1 : decode cX4_inChain 1 = .ok (.ifCond .lt 9, 3) := by decide +kernel
theorem dX4_inChain_4 : decode cX4_inChain 4 = .ok (.iload_n 2, 1) := by decide +kernel
theorem dX4_inChain_5 : decode cX4_inChain 5 = .ok (.bipush 20, 2) := by decide +kernel
theorem dX4_inChain_7 : decode cX4_inChain 7 = .ok (.if_icmp .lt 5, 3) := by decide +kernel
theorem dX4_inChain_10 : decode cX4_inChain 10 = .ok (.iconst (-1), 1) := by decide +kernel
theorem dX4_inChain_11 : decode cX4_inChain 11 = .ok (.ireturn, 1) := by decide +kernel
theorem dX4_inChain_12 : decode cX4_inChain 12 = .ok (.aload_n 0, 1) := by decide +kernel
theorem dX4_inChain_13 : decode cX4_inChain 13 = .ok (.iload_n 1, 1) := by decide +kernel
theorem dX4_inChain_14 : decode cX4_inChain 14 = .ok (.invokevirtual 66, 3) := by decide +kernel
theorem dX4_inChain_17 : decode cX4_inChain 17 = .ok (.istore_n 3, 1) := by decide +kernel
theorem dX4_inChain_18 : decode cX4_inChain 18 = .ok (.iconst 0, 1) := by decide +kernel
theorem dX4_inChain_19 : decode cX4_inChain 19 = .ok (.istore 4, 2) := by decide +kernel
theorem dX4_inChain_21 : decode cX4_inChain 21 = .ok (.iload 4, 2) := by decide +kernel
theorem dX4_inChain_23 : decode cX4_inChain 23 = .ok (.iload_n 2, 1) := by decide +kernel
theorem dX4_inChain_24 : decode cX4_inChain 24 = .ok (.if_icmp .ge 20, 3) := by decide +kernel
theorem dX4_inChain_27 : decode cX4_inChain 27 = .ok (.iload_n 3, 1) := by decide +kernel
theorem dX4_inChain_28 : decode cX4_inChain 28 = .ok (.iconst (-1), 1) := by decide +kernel
theorem dX4_inChain_29 : decode cX4_inChain 29 = .ok (.if_icmp .eq 15, 3) := by decide +kernel
theorem dX4_inChain_32 : decode cX4_inChain 32 = .ok (.aload_n 0, 1) := by decide +kernel
theorem dX4_inChain_33 : decode cX4_inChain 33 = .ok (.iload_n 3, 1) := by decide +kernel
theorem dX4_inChain_34 : decode cX4_inChain 34 = .ok (.invokevirtual 66, 3) := by decide +kernel
theorem dX4_inChain_37 : decode cX4_inChain 37 = .ok (.istore_n 3, 1) := by decide +kernel
theorem dX4_inChain_38 : decode cX4_inChain 38 = .ok (.iinc 4 1, 3) := by decide +kernel
theorem dX4_inChain_41 : decode cX4_inChain 41 = .ok (.goto (-20), 3) := by decide +kernel
theorem dX4_inChain_44 : decode cX4_inChain 44 = .ok (.iload_n 3, 1) := by decide +kernel
theorem dX4_inChain_45 : decode cX4_inChain 45 = .ok (.ireturn, 1) := by decide +kernel
theorem dX4_nextCount_0 : decode cX4_nextCount 0 = .ok (.iconst 0, 1) := by decide +kernel
theorem dX4_nextCount_1 : decode cX4_nextCount 1 = .ok (.istore_n 2, 1) := by decide +kernel
theorem dX4_nextCount_2 : decode cX4_nextCount 2 = .ok (.iconst 0, 1) := by decide +kernel
theorem dX4_nextCount_3 : decode cX4_nextCount 3 = .ok (.istore_n 3, 1) := by decide +kernel
theorem dX4_nextCount_4 : decode cX4_nextCount 4 = .ok (.iload_n 3, 1) := by decide +kernel
theorem dX4_nextCount_5 : decode cX4_nextCount 5 = .ok (.bipush 20, 2) := by decide +kernel
theorem dX4_nextCount_7 : decode cX4_nextCount 7 = .ok (.if_icmp .ge 22, 3) := by decide +kernel
theorem dX4_nextCount_10 : decode cX4_nextCount 10 = .ok (.aload_n 0, 1) := by decide +kernel
theorem dX4_nextCount_11 : decode cX4_nextCount 11 = .ok (.getfield 18, 3) := by decide +kernel
theorem dX4_nextCount_14 : decode cX4_nextCount 14 = .ok (.iload_n 3, 1) := by decide +kernel
theorem dX4_nextCount_15 : decode cX4_nextCount 15 = .ok (.iaload, 1) := by decide +kernel
theorem dX4_nextCount_16 : decode cX4_nextCount 16 = .ok (.iload_n 1, 1) := by decide +kernel
theorem dX4_nextCount_17 : decode cX4_nextCount 17 = .ok (.if_icmp .ne 6, 3) := by decide +kernel
theorem dX4_nextCount_20 : decode cX4_nextCount 20 = .ok (.iinc 2 1, 3) := by decide +kernel
theorem dX4_nextCount_23 : decode cX4_nextCount 23 = .ok (.iinc 3 1, 3) := by decide +kernel
theorem dX4_nextCount_26 : decode cX4_nextCount 26 = .ok (.goto (-22), 3) := by decide +kernel
theorem dX4_nextCount_29 : decode cX4_nextCount 29 = .ok (.iload_n 2, 1) := by decide +kernel
theorem dX4_nextCount_30 : decode cX4_nextCount 30 = .ok (.ireturn, 1) := by decide +kernel
theorem dX4_firstNext_0 : decode cX4_firstNext 0 = .ok (.iconst 0, 1) := by decide +kernel
theorem dX4_firstNext_1 : decode cX4_firstNext 1 = .ok (.istore_n 2, 1) := by decide +kernel
theorem dX4_firstNext_2 : decode cX4_firstNext 2 = .ok (.iload_n 2, 1) := by decide +kernel
theorem dX4_firstNext_3 : decode cX4_firstNext 3 = .ok (.bipush 20, 2) := by decide +kernel
theorem dX4_firstNext_5 : decode cX4_firstNext 5 = .ok (.if_icmp .ge 31, 3) := by decide +kernel
theorem dX4_firstNext_8 : decode cX4_firstNext 8 = .ok (.aload_n 0, 1) := by decide +kernel
theorem dX4_firstNext_9 : decode cX4_firstNext 9 = .ok (.getfield 9, 3) := by decide +kernel
theorem dX4_firstNext_12 : decode cX4_firstNext 12 = .ok (.iload_n 2, 1) := by decide +kernel
theorem dX4_firstNext_13 : decode cX4_firstNext 13 = .ok (.iaload, 1) := by decide +kernel
theorem dX4_firstNext_14 : decode cX4_firstNext 14 = .ok (.iconst (-1), 1) := by decide +kernel
theorem dX4_firstNext_15 : decode cX4_firstNext 15 = .ok (.if_icmp .eq 15, 3) := by decide +kernel
theorem dX4_firstNext_18 : decode cX4_firstNext 18 = .ok (.aload_n 0, 1) := by decide +kernel
theorem dX4_firstNext_19 : decode cX4_firstNext 19 = .ok (.getfield 18, 3) := by decide +kernel
theorem dX4_firstNext_22 : decode cX4_firstNext 22 = .ok (.iload_n 2, 1) := by decide +kernel
theorem dX4_firstNext_23 : decode cX4_firstNext 23 = .ok (.iaload, 1) := by decide +kernel
theorem dX4_firstNext_24 : decode cX4_firstNext 24 = .ok (.iload_n 1, 1) := by decide +kernel
theorem dX4_firstNext_25 : decode cX4_firstNext 25 = .ok (.if_icmp .ne 5, 3) := by decide +kernel
theorem dX4_firstNext_28 : decode cX4_firstNext 28 = .ok (.iload_n 2, 1) := by decide +kernel
theorem dX4_firstNext_29 : decode cX4_firstNext 29 = .ok (.ireturn, 1) := by decide +kernel
theorem dX4_firstNext_30 : decode cX4_firstNext 30 = .ok (.iinc 2 1, 3) := by decide +kernel
theorem dX4_firstNext_33 : decode cX4_firstNext 33 = .ok (.goto (-31), 3) := by decide +kernel
theorem dX4_firstNext_36 : decode cX4_firstNext 36 = .ok (.iconst (-1), 1) := by decide +kernel
theorem dX4_firstNext_37 : decode cX4_firstNext 37 = .ok (.ireturn, 1) := by decide +kernel
theorem dX4_ownCount_0 : decode cX4_ownCount 0 = .ok (.iconst 0, 1) := by decide +kernel
theorem dX4_ownCount_1 : decode cX4_ownCount 1 = .ok (.istore_n 2, 1) := by decide +kernel
theorem dX4_ownCount_2 : decode cX4_ownCount 2 = .ok (.iconst 0, 1) := by decide +kernel
theorem dX4_ownCount_3 : decode cX4_ownCount 3 = .ok (.istore_n 3, 1) := by decide +kernel
theorem dX4_ownCount_4 : decode cX4_ownCount 4 = .ok (.iload_n 3, 1) := by decide +kernel
theorem dX4_ownCount_5 : decode cX4_ownCount 5 = .ok (.bipush 20, 2) := by decide +kernel
theorem dX4_ownCount_7 : decode cX4_ownCount 7 = .ok (.if_icmp .ge 22, 3) := by decide +kernel
theorem dX4_ownCount_10 : decode cX4_ownCount 10 = .ok (.aload_n 0, 1) := by decide +kernel
theorem dX4_ownCount_11 : decode cX4_ownCount 11 = .ok (.getfield 21, 3) := by decide +kernel
theorem dX4_ownCount_14 : decode cX4_ownCount 14 = .ok (.iload_n 3, 1) := by decide +kernel
theorem dX4_ownCount_15 : decode cX4_ownCount 15 = .ok (.iaload, 1) := by decide +kernel
theorem dX4_ownCount_16 : decode cX4_ownCount 16 = .ok (.iload_n 1, 1) := by decide +kernel
theorem dX4_ownCount_17 : decode cX4_ownCount 17 = .ok (.if_icmp .ne 6, 3) := by decide +kernel
theorem dX4_ownCount_20 : decode cX4_ownCount 20 = .ok (.iinc 2 1, 3) := by decide +kernel
theorem dX4_ownCount_23 : decode cX4_ownCount 23 = .ok (.iinc 3 1, 3) := by decide +kernel
theorem dX4_ownCount_26 : decode cX4_ownCount 26 = .ok (.goto (-22), 3) := by decide +kernel
theorem dX4_ownCount_29 : decode cX4_ownCount 29 = .ok (.iload_n 2, 1) := by decide +kernel
theorem dX4_ownCount_30 : decode cX4_ownCount 30 = .ok (.ireturn, 1) := by decide +kernel
set_option maxRecDepth 20000 in
theorem ggX4_originOf_X4_isFiles : GoodIn wsX4_originOf wsX4_isFiles := goodIn_r _ [5, 6, 7, 8, 4, 9, 10, 25, 26, 27, 28, 29, 30, 31, 32, 33, 34, 35] (by decide +kernel) (by decide +kernel)
set_option maxRecDepth 20000 in
theorem gX4_originOf_X4_isFiles : GoodIn wsX4_originOf (wsV RX4 69 RX4 yX4_isFiles wsX4_isFiles) := goodIn_app (goodIn_of _ (by decide +kernel)) ggX4_originOf_X4_isFiles
set_option maxRecDepth 20000 in
theorem ggX4_originOf_X4_ownCount : GoodIn wsX4_originOf wsX4_ownCount := goodIn_r _ [14, 15, 25, 26, 27, 28, 29, 30, 31, 32, 33, 34, 35] (by decide +kernel) (by decide +kernel)
set_option maxRecDepth 20000 in
theorem gX4_originOf_X4_ownCount : GoodIn wsX4_originOf (wsV RX4 73 RX4 yX4_ownCount wsX4_ownCount) := goodIn_app (goodIn_of _ (by decide +kernel)) ggX4_originOf_X4_ownCount
set_option maxRecDepth 20000 in
theorem ggX4_originOf_X4_inChain : GoodIn wsX4_originOf wsX4_inChain := goodIn_r _ [19, 20, 21, 22, 4, 23, 24, 25, 26, 27, 28, 29, 30, 31, 32, 33, 34, 35] (by decide +kernel) (by decide +kernel)
set_option maxRecDepth 20000 in
theorem gX4_originOf_X4_inChain : GoodIn wsX4_originOf (wsV RX4 76 RX4 yX4_inChain wsX4_inChain) := goodIn_app (goodIn_of _ (by decide +kernel)) ggX4_originOf_X4_inChain
theorem dX4_originOf_0 : decode cX4_originOf 0 = .ok (.aload_n 0, 1) := by decide +kernel
theorem dX4_originOf_1 : decode cX4_originOf 1 = .ok (.iload_n 1, 1) := by decide +kernel
theorem dX4_originOf_2 : decode cX4_originOf 2 = .ok (.invokevirtual 69, 3) := by decide +kernel
theorem dX4_originOf_5 : decode cX4_originOf 5 = .ok (.ifCond .eq 16, 3) := by decide +kernel
theorem dX4_originOf_8 : decode cX4_originOf 8 = .ok (.aload_n 0, 1) := by decide +kernel
theorem dX4_originOf_9 : decode cX4_originOf 9 = .ok (.iload_n 1, 1) := by decide +kernel
theorem dX4_originOf_10 : decode cX4_originOf 10 = .ok (.aload_n 0, 1) := by decide +kernel
theorem dX4_originOf_11 : decode cX4_originOf 11 = .ok (.iload_n 1, 1) := by decide +kernel
theorem dX4_originOf_12 : decode cX4_originOf 12 = .ok (.invokevirtual 73, 3) := by decide +kernel
theorem dX4_originOf_15 : decode cX4_originOf 15 = .ok (.invokevirtual 76, 3) := by decide +kernel
theorem dX4_originOf_18 : decode cX4_originOf 18 = .ok (.goto 4, 3) := by decide +kernel
theorem dX4_originOf_21 : decode cX4_originOf 21 = .ok (.iconst (-1), 1) := by decide +kernel
theorem dX4_originOf_22 : decode cX4_originOf 22 = .ok (.ireturn, 1) := by decide +kernel
set_option maxRecDepth 20000 in
theorem ggX4_isLoose_X4_isSnapshot : GoodIn wsX4_isLoose wsX4_isSnapshot := goodIn_r _ [5, 6, 7, 8, 4, 9, 10, 21, 22, 23, 24, 25, 26, 27, 28, 29, 30, 31] (by decide +kernel) (by decide +kernel)
set_option maxRecDepth 20000 in
theorem gX4_isLoose_X4_isSnapshot : GoodIn wsX4_isLoose (wsV RX4 79 RX4 yX4_isSnapshot wsX4_isSnapshot) := goodIn_app (goodIn_of _ (by decide +kernel)) ggX4_isLoose_X4_isSnapshot
set_option maxRecDepth 20000 in
theorem ggX4_isLoose_X4_tagsOf : GoodIn wsX4_isLoose wsX4_tagsOf := goodIn_r _ [14, 15, 21, 22, 23, 24, 25, 26, 27, 28, 29, 30, 31] (by decide +kernel) (by decide +kernel)
set_option maxRecDepth 20000 in
theorem gX4_isLoose_X4_tagsOf : GoodIn wsX4_isLoose (wsV RX4 82 RX4 yX4_tagsOf wsX4_tagsOf) := goodIn_app (goodIn_of _ (by decide +kernel)) ggX4_isLoose_X4_tagsOf
set_option maxRecDepth 20000 in
theorem ggX4_isLoose_X4_nextCount : GoodIn wsX4_isLoose wsX4_nextCount := goodIn_r _ [19, 20, 21, 22, 23, 24, 25, 26, 27, 28, 29, 30, 31] (by decide +kernel) (by decide +kernel)
set_option maxRecDepth 20000 in
theorem gX4_isLoose_X4_nextCount : GoodIn wsX4_isLoose (wsV RX4 85 RX4 yX4_nextCount wsX4_nextCount) := goodIn_app (goodIn_of _ (by decide +kernel)) ggX4_isLoose_X4_nextCount
theorem dX4_isLoose_0 : decode cX4_isLoose 0 = .ok (.aload_n 0, 1) := by decide +kernel
theorem dX4_isLoose_1 : decode cX4_isLoose 1 = .ok (.iload_n 1, 1) := by decide +kernel
theorem dX4_isLoose_2 : decode cX4_isLoose 2 = .ok (.invokevirtual 79, 3) := by decide +kernel
theorem dX4_isLoose_5 : decode cX4_isLoose 5 = .ok (.ifCond .eq 24, 3) := by decide +kernel
theorem dX4_isLoose_8 : decode cX4_isLoose 8 = .ok (.aload_n 0, 1) := by decide +kernel
theorem dX4_isLoose_9 : decode cX4_isLoose 9 = .ok (.iload_n 1, 1) := by decide +kernel
theorem dX4_isLoose_10 : decode cX4_isLoose 10 = .ok (.invokevirtual 82, 3) := by decide +kernel
theorem dX4_isLoose_13 : decode cX4_isLoose 13 = .ok (.ifCond .ne 16, 3) := by decide +kernel
theorem dX4_isLoose_16 : decode cX4_isLoose 16 = .ok (.aload_n 0, 1) := by decide +kernel
theorem dX4_isLoose_17 : decode cX4_isLoose 17 = .ok (.iload_n 1, 1) := by decide +kernel
theorem dX4_isLoose_18 : decode cX4_isLoose 18 = .ok (.invokevirtual 85, 3) := by decide +kernel
theorem dX4_isLoose_21 : decode cX4_isLoose 21 = .ok (.iconst 1, 1) := by decide +kernel
theorem dX4_isLoose_22 : decode cX4_isLoose 22 = .ok (.if_icmp .ne 7, 3) := by decide +kernel
theorem dX4_isLoose_25 : decode cX4_isLoose 25 = .ok (.iconst 1, 1) := by decide +kernel
theorem dX4_isLoose_26 : decode cX4_isLoose 26 = .ok (.goto 4, 3) := by decide +kernel
theorem dX4_isLoose_29 : decode cX4_isLoose 29 = .ok (.iconst 0, 1) := by decide +kernel
theorem dX4_isLoose_30 : decode cX4_isLoose 30 = .ok (.ireturn, 1) := by decide +kernel
theorem dX4_sizeOf_0 : decode cX4_sizeOf 0 = .ok (.iload_n 1, 1) := by decide +kernel
theorem dX4_sizeOf_1 : decode cX4_sizeOf 1 = .ok (.ifCond .lt 18, 3) := by decide +kernel
theorem dX4_sizeOf_4 : decode cX4_sizeOf 4 = .ok (.iload_n 1, 1) := by decide +kernel
theorem dX4_sizeOf_5 : decode cX4_sizeOf 5 = .ok (.bipush 96, 2) := by decide +kernel
theorem dX4_sizeOf_7 : decode cX4_sizeOf 7 = .ok (.if_icmp .ge 12, 3) := by decide +kernel
theorem dX4_sizeOf_10 : decode cX4_sizeOf 10 = .ok (.aload_n 0, 1) := by decide +kernel
theorem dX4_sizeOf_11 : decode cX4_sizeOf 11 = .ok (.getfield 33, 3) := by decide +kernel
theorem dX4_sizeOf_14 : decode cX4_sizeOf 14 = .ok (.iload_n 1, 1) := by decide +kernel
theorem dX4_sizeOf_15 : decode cX4_sizeOf 15 = .ok (.iaload, 1) := by decide +kernel
theorem dX4_sizeOf_16 : decode cX4_sizeOf 16 = .ok (.goto 4, 3) := by decide +kernel
theorem dX4_sizeOf_19 : decode cX4_sizeOf 19 = .ok (.iconst 0, 1) := by decide +kernel
theorem dX4_sizeOf_20 : decode cX4_sizeOf 20 = .ok (.ireturn, 1) := by decide +kernel
theorem dX4_birthOf_0 : decode cX4_birthOf 0 = .ok (.iload_n 1, 1) := by decide +kernel
theorem dX4_birthOf_1 : decode cX4_birthOf 1 = .ok (.ifCond .lt 18, 3) := by decide +kernel
theorem dX4_birthOf_4 : decode cX4_birthOf 4 = .ok (.iload_n 1, 1) := by decide +kernel
theorem dX4_birthOf_5 : decode cX4_birthOf 5 = .ok (.bipush 96, 2) := by decide +kernel
theorem dX4_birthOf_7 : decode cX4_birthOf 7 = .ok (.if_icmp .ge 12, 3) := by decide +kernel
theorem dX4_birthOf_10 : decode cX4_birthOf 10 = .ok (.aload_n 0, 1) := by decide +kernel
theorem dX4_birthOf_11 : decode cX4_birthOf 11 = .ok (.getfield 36, 3) := by decide +kernel
theorem dX4_birthOf_14 : decode cX4_birthOf 14 = .ok (.iload_n 1, 1) := by decide +kernel
theorem dX4_birthOf_15 : decode cX4_birthOf 15 = .ok (.iaload, 1) := by decide +kernel
theorem dX4_birthOf_16 : decode cX4_birthOf 16 = .ok (.goto 4, 3) := by decide +kernel
theorem dX4_birthOf_19 : decode cX4_birthOf 19 = .ok (.iconst 0, 1) := by decide +kernel
theorem dX4_birthOf_20 : decode cX4_birthOf 20 = .ok (.ireturn, 1) := by decide +kernel
theorem dX4_thingCount_0 : decode cX4_thingCount 0 = .ok (.iconst 0, 1) := by decide +kernel
theorem dX4_thingCount_1 : decode cX4_thingCount 1 = .ok (.istore_n 1, 1) := by decide +kernel
theorem dX4_thingCount_2 : decode cX4_thingCount 2 = .ok (.iconst 0, 1) := by decide +kernel
theorem dX4_thingCount_3 : decode cX4_thingCount 3 = .ok (.istore_n 2, 1) := by decide +kernel
theorem dX4_thingCount_4 : decode cX4_thingCount 4 = .ok (.iload_n 2, 1) := by decide +kernel
theorem dX4_thingCount_5 : decode cX4_thingCount 5 = .ok (.bipush 20, 2) := by decide +kernel
theorem dX4_thingCount_7 : decode cX4_thingCount 7 = .ok (.if_icmp .ge 22, 3) := by decide +kernel
theorem dX4_thingCount_10 : decode cX4_thingCount 10 = .ok (.aload_n 0, 1) := by decide +kernel
theorem dX4_thingCount_11 : decode cX4_thingCount 11 = .ok (.getfield 9, 3) := by decide +kernel
theorem dX4_thingCount_14 : decode cX4_thingCount 14 = .ok (.iload_n 2, 1) := by decide +kernel
theorem dX4_thingCount_15 : decode cX4_thingCount 15 = .ok (.iaload, 1) := by decide +kernel
theorem dX4_thingCount_16 : decode cX4_thingCount 16 = .ok (.iconst (-1), 1) := by decide +kernel
theorem dX4_thingCount_17 : decode cX4_thingCount 17 = .ok (.if_icmp .eq 6, 3) := by decide +kernel
theorem dX4_thingCount_20 : decode cX4_thingCount 20 = .ok (.iinc 1 1, 3) := by decide +kernel
theorem dX4_thingCount_23 : decode cX4_thingCount 23 = .ok (.iinc 2 1, 3) := by decide +kernel
theorem dX4_thingCount_26 : decode cX4_thingCount 26 = .ok (.goto (-22), 3) := by decide +kernel
theorem dX4_thingCount_29 : decode cX4_thingCount 29 = .ok (.iload_n 1, 1) := by decide +kernel
theorem dX4_thingCount_30 : decode cX4_thingCount 30 = .ok (.ireturn, 1) := by decide +kernel
theorem dX4_blockCount_0 : decode cX4_blockCount 0 = .ok (.iconst 0, 1) := by decide +kernel
theorem dX4_blockCount_1 : decode cX4_blockCount 1 = .ok (.istore_n 1, 1) := by decide +kernel
theorem dX4_blockCount_2 : decode cX4_blockCount 2 = .ok (.iconst 0, 1) := by decide +kernel
theorem dX4_blockCount_3 : decode cX4_blockCount 3 = .ok (.istore_n 2, 1) := by decide +kernel
theorem dX4_blockCount_4 : decode cX4_blockCount 4 = .ok (.iload_n 2, 1) := by decide +kernel
theorem dX4_blockCount_5 : decode cX4_blockCount 5 = .ok (.bipush 96, 2) := by decide +kernel
theorem dX4_blockCount_7 : decode cX4_blockCount 7 = .ok (.if_icmp .ge 21, 3) := by decide +kernel
theorem dX4_blockCount_10 : decode cX4_blockCount 10 = .ok (.aload_n 0, 1) := by decide +kernel
theorem dX4_blockCount_11 : decode cX4_blockCount 11 = .ok (.getfield 33, 3) := by decide +kernel
theorem dX4_blockCount_14 : decode cX4_blockCount 14 = .ok (.iload_n 2, 1) := by decide +kernel
theorem dX4_blockCount_15 : decode cX4_blockCount 15 = .ok (.iaload, 1) := by decide +kernel
theorem dX4_blockCount_16 : decode cX4_blockCount 16 = .ok (.ifCond .eq 6, 3) := by decide +kernel
theorem dX4_blockCount_19 : decode cX4_blockCount 19 = .ok (.iinc 1 1, 3) := by decide +kernel
theorem dX4_blockCount_22 : decode cX4_blockCount 22 = .ok (.iinc 2 1, 3) := by decide +kernel
theorem dX4_blockCount_25 : decode cX4_blockCount 25 = .ok (.goto (-21), 3) := by decide +kernel
theorem dX4_blockCount_28 : decode cX4_blockCount 28 = .ok (.iload_n 1, 1) := by decide +kernel
theorem dX4_blockCount_29 : decode cX4_blockCount 29 = .ok (.ireturn, 1) := by decide +kernel
theorem dX4_sizeOfAll_0 : decode cX4_sizeOfAll 0 = .ok (.lconst 0, 1) := by decide +kernel
theorem dX4_sizeOfAll_1 : decode cX4_sizeOfAll 1 = .ok (.lstore_n 1, 1) := by decide +kernel
theorem dX4_sizeOfAll_2 : decode cX4_sizeOfAll 2 = .ok (.iconst 0, 1) := by decide +kernel
theorem dX4_sizeOfAll_3 : decode cX4_sizeOfAll 3 = .ok (.istore_n 3, 1) := by decide +kernel
theorem dX4_sizeOfAll_4 : decode cX4_sizeOfAll 4 = .ok (.iload_n 3, 1) := by decide +kernel
theorem dX4_sizeOfAll_5 : decode cX4_sizeOfAll 5 = .ok (.bipush 96, 2) := by decide +kernel
theorem dX4_sizeOfAll_7 : decode cX4_sizeOfAll 7 = .ok (.if_icmp .ge 19, 3) := by decide +kernel
theorem dX4_sizeOfAll_10 : decode cX4_sizeOfAll 10 = .ok (.lload_n 1, 1) := by decide +kernel
theorem dX4_sizeOfAll_11 : decode cX4_sizeOfAll 11 = .ok (.aload_n 0, 1) := by decide +kernel
theorem dX4_sizeOfAll_12 : decode cX4_sizeOfAll 12 = .ok (.getfield 33, 3) := by decide +kernel
theorem dX4_sizeOfAll_15 : decode cX4_sizeOfAll 15 = .ok (.iload_n 3, 1) := by decide +kernel
theorem dX4_sizeOfAll_16 : decode cX4_sizeOfAll 16 = .ok (.iaload, 1) := by decide +kernel
theorem dX4_sizeOfAll_17 : decode cX4_sizeOfAll 17 = .ok (.i2l, 1) := by decide +kernel
theorem dX4_sizeOfAll_18 : decode cX4_sizeOfAll 18 = .ok (.ladd, 1) := by decide +kernel
theorem dX4_sizeOfAll_19 : decode cX4_sizeOfAll 19 = .ok (.lstore_n 1, 1) := by decide +kernel
theorem dX4_sizeOfAll_20 : decode cX4_sizeOfAll 20 = .ok (.iinc 3 1, 3) := by decide +kernel
theorem dX4_sizeOfAll_23 : decode cX4_sizeOfAll 23 = .ok (.goto (-19), 3) := by decide +kernel
theorem dX4_sizeOfAll_26 : decode cX4_sizeOfAll 26 = .ok (.lload_n 1, 1) := by decide +kernel
theorem dX4_sizeOfAll_27 : decode cX4_sizeOfAll 27 = .ok (.lreturn, 1) := by decide +kernel
theorem dX4_now_0 : decode cX4_now 0 = .ok (.aload_n 0, 1) := by decide +kernel
theorem dX4_now_1 : decode cX4_now 1 = .ok (.getfield 39, 3) := by decide +kernel
theorem dX4_now_4 : decode cX4_now 4 = .ok (.ireturn, 1) := by decide +kernel
theorem dX4_freedCount_0 : decode cX4_freedCount 0 = .ok (.aload_n 0, 1) := by decide +kernel
theorem dX4_freedCount_1 : decode cX4_freedCount 1 = .ok (.getfield 43, 3) := by decide +kernel
theorem dX4_freedCount_4 : decode cX4_freedCount 4 = .ok (.ireturn, 1) := by decide +kernel
theorem dX4_newThing_0 : decode cX4_newThing 0 = .ok (.iconst 0, 1) := by decide +kernel
theorem dX4_newThing_1 : decode cX4_newThing 1 = .ok (.istore_n 3, 1) := by decide +kernel
theorem dX4_newThing_2 : decode cX4_newThing 2 = .ok (.iload_n 3, 1) := by decide +kernel
theorem dX4_newThing_3 : decode cX4_newThing 3 = .ok (.bipush 20, 2) := by decide +kernel
theorem dX4_newThing_5 : decode cX4_newThing 5 = .ok (.if_icmp .ge 35, 3) := by decide +kernel
theorem dX4_newThing_8 : decode cX4_newThing 8 = .ok (.aload_n 0, 1) := by decide +kernel
theorem dX4_newThing_9 : decode cX4_newThing 9 = .ok (.getfield 9, 3) := by decide +kernel
theorem dX4_newThing_12 : decode cX4_newThing 12 = .ok (.iload_n 3, 1) := by decide +kernel
theorem dX4_newThing_13 : decode cX4_newThing 13 = .ok (.iaload, 1) := by decide +kernel
theorem dX4_newThing_14 : decode cX4_newThing 14 = .ok (.iconst (-1), 1) := by decide +kernel
theorem dX4_newThing_15 : decode cX4_newThing 15 = .ok (.if_icmp .ne 19, 3) := by decide +kernel
theorem dX4_newThing_18 : decode cX4_newThing 18 = .ok (.aload_n 0, 1) := by decide +kernel
theorem dX4_newThing_19 : decode cX4_newThing 19 = .ok (.getfield 9, 3) := by decide +kernel
theorem dX4_newThing_22 : decode cX4_newThing 22 = .ok (.iload_n 3, 1) := by decide +kernel
theorem dX4_newThing_23 : decode cX4_newThing 23 = .ok (.iload_n 1, 1) := by decide +kernel
theorem dX4_newThing_24 : decode cX4_newThing 24 = .ok (.iastore, 1) := by decide +kernel
theorem dX4_newThing_25 : decode cX4_newThing 25 = .ok (.aload_n 0, 1) := by decide +kernel
theorem dX4_newThing_26 : decode cX4_newThing 26 = .ok (.getfield 15, 3) := by decide +kernel
theorem dX4_newThing_29 : decode cX4_newThing 29 = .ok (.iload_n 3, 1) := by decide +kernel
theorem dX4_newThing_30 : decode cX4_newThing 30 = .ok (.iload_n 2, 1) := by decide +kernel
theorem dX4_newThing_31 : decode cX4_newThing 31 = .ok (.iastore, 1) := by decide +kernel
theorem dX4_newThing_32 : decode cX4_newThing 32 = .ok (.iload_n 3, 1) := by decide +kernel
theorem dX4_newThing_33 : decode cX4_newThing 33 = .ok (.ireturn, 1) := by decide +kernel
theorem dX4_newThing_34 : decode cX4_newThing 34 = .ok (.iinc 3 1, 3) := by decide +kernel
theorem dX4_newThing_37 : decode cX4_newThing 37 = .ok (.goto (-35), 3) := by decide +kernel
theorem dX4_newThing_40 : decode cX4_newThing 40 = .ok (.bipush (-4), 2) := by decide +kernel
theorem dX4_newThing_42 : decode cX4_newThing 42 = .ok (.ireturn, 1) := by decide +kernel
theorem dX4_dropThing_0 : decode cX4_dropThing 0 = .ok (.iload_n 1, 1) := by decide +kernel
theorem dX4_dropThing_1 : decode cX4_dropThing 1 = .ok (.ifCond .lt 9, 3) := by decide +kernel
theorem dX4_dropThing_4 : decode cX4_dropThing 4 = .ok (.iload_n 1, 1) := by decide +kernel
theorem dX4_dropThing_5 : decode cX4_dropThing 5 = .ok (.bipush 20, 2) := by decide +kernel
theorem dX4_dropThing_7 : decode cX4_dropThing 7 = .ok (.if_icmp .lt 4, 3) := by decide +kernel
theorem dX4_dropThing_10 : decode cX4_dropThing 10 = .ok (.return_, 1) := by decide +kernel
theorem dX4_dropThing_11 : decode cX4_dropThing 11 = .ok (.aload_n 0, 1) := by decide +kernel
theorem dX4_dropThing_12 : decode cX4_dropThing 12 = .ok (.getfield 9, 3) := by decide +kernel
theorem dX4_dropThing_15 : decode cX4_dropThing 15 = .ok (.iload_n 1, 1) := by decide +kernel
theorem dX4_dropThing_16 : decode cX4_dropThing 16 = .ok (.iconst (-1), 1) := by decide +kernel
theorem dX4_dropThing_17 : decode cX4_dropThing 17 = .ok (.iastore, 1) := by decide +kernel
theorem dX4_dropThing_18 : decode cX4_dropThing 18 = .ok (.aload_n 0, 1) := by decide +kernel
theorem dX4_dropThing_19 : decode cX4_dropThing 19 = .ok (.getfield 15, 3) := by decide +kernel
theorem dX4_dropThing_22 : decode cX4_dropThing 22 = .ok (.iload_n 1, 1) := by decide +kernel
theorem dX4_dropThing_23 : decode cX4_dropThing 23 = .ok (.iconst 0, 1) := by decide +kernel
theorem dX4_dropThing_24 : decode cX4_dropThing 24 = .ok (.iastore, 1) := by decide +kernel
theorem dX4_dropThing_25 : decode cX4_dropThing 25 = .ok (.aload_n 0, 1) := by decide +kernel
theorem dX4_dropThing_26 : decode cX4_dropThing 26 = .ok (.getfield 18, 3) := by decide +kernel
theorem dX4_dropThing_29 : decode cX4_dropThing 29 = .ok (.iload_n 1, 1) := by decide +kernel
theorem dX4_dropThing_30 : decode cX4_dropThing 30 = .ok (.iconst (-1), 1) := by decide +kernel
theorem dX4_dropThing_31 : decode cX4_dropThing 31 = .ok (.iastore, 1) := by decide +kernel
theorem dX4_dropThing_32 : decode cX4_dropThing 32 = .ok (.aload_n 0, 1) := by decide +kernel
theorem dX4_dropThing_33 : decode cX4_dropThing 33 = .ok (.getfield 21, 3) := by decide +kernel
theorem dX4_dropThing_36 : decode cX4_dropThing 36 = .ok (.iload_n 1, 1) := by decide +kernel
theorem dX4_dropThing_37 : decode cX4_dropThing 37 = .ok (.iconst (-1), 1) := by decide +kernel
theorem dX4_dropThing_38 : decode cX4_dropThing 38 = .ok (.iastore, 1) := by decide +kernel
theorem dX4_dropThing_39 : decode cX4_dropThing 39 = .ok (.aload_n 0, 1) := by decide +kernel
theorem dX4_dropThing_40 : decode cX4_dropThing 40 = .ok (.getfield 24, 3) := by decide +kernel
theorem dX4_dropThing_43 : decode cX4_dropThing 43 = .ok (.iload_n 1, 1) := by decide +kernel
theorem dX4_dropThing_44 : decode cX4_dropThing 44 = .ok (.iconst 0, 1) := by decide +kernel
theorem dX4_dropThing_45 : decode cX4_dropThing 45 = .ok (.iastore, 1) := by decide +kernel
theorem dX4_dropThing_46 : decode cX4_dropThing 46 = .ok (.aload_n 0, 1) := by decide +kernel
theorem dX4_dropThing_47 : decode cX4_dropThing 47 = .ok (.getfield 27, 3) := by decide +kernel
theorem dX4_dropThing_50 : decode cX4_dropThing 50 = .ok (.iload_n 1, 1) := by decide +kernel
theorem dX4_dropThing_51 : decode cX4_dropThing 51 = .ok (.iconst (-1), 1) := by decide +kernel
theorem dX4_dropThing_52 : decode cX4_dropThing 52 = .ok (.iastore, 1) := by decide +kernel
theorem dX4_dropThing_53 : decode cX4_dropThing 53 = .ok (.iconst 0, 1) := by decide +kernel
theorem dX4_dropThing_54 : decode cX4_dropThing 54 = .ok (.istore_n 2, 1) := by decide +kernel
theorem dX4_dropThing_55 : decode cX4_dropThing 55 = .ok (.iload_n 2, 1) := by decide +kernel
theorem dX4_dropThing_56 : decode cX4_dropThing 56 = .ok (.bipush 12, 2) := by decide +kernel
theorem dX4_dropThing_58 : decode cX4_dropThing 58 = .ok (.if_icmp .ge 21, 3) := by decide +kernel
theorem dX4_dropThing_61 : decode cX4_dropThing 61 = .ok (.aload_n 0, 1) := by decide +kernel
theorem dX4_dropThing_62 : decode cX4_dropThing 62 = .ok (.getfield 30, 3) := by decide +kernel
theorem dX4_dropThing_65 : decode cX4_dropThing 65 = .ok (.iload_n 1, 1) := by decide +kernel
theorem dX4_dropThing_66 : decode cX4_dropThing 66 = .ok (.bipush 12, 2) := by decide +kernel
theorem dX4_dropThing_68 : decode cX4_dropThing 68 = .ok (.imul, 1) := by decide +kernel
theorem dX4_dropThing_69 : decode cX4_dropThing 69 = .ok (.iload_n 2, 1) := by decide +kernel
theorem dX4_dropThing_70 : decode cX4_dropThing 70 = .ok (.iadd, 1) := by decide +kernel
theorem dX4_dropThing_71 : decode cX4_dropThing 71 = .ok (.iconst (-1), 1) := by decide +kernel
theorem dX4_dropThing_72 : decode cX4_dropThing 72 = .ok (.iastore, 1) := by decide +kernel
theorem dX4_dropThing_73 : decode cX4_dropThing 73 = .ok (.iinc 2 1, 3) := by decide +kernel
theorem dX4_dropThing_76 : decode cX4_dropThing 76 = .ok (.goto (-21), 3) := by decide +kernel
theorem dX4_dropThing_79 : decode cX4_dropThing 79 = .ok (.return_, 1) := by decide +kernel
theorem dX4_newBlock_0 : decode cX4_newBlock 0 = .ok (.iconst 0, 1) := by decide +kernel
theorem dX4_newBlock_1 : decode cX4_newBlock 1 = .ok (.istore_n 2, 1) := by decide +kernel
theorem dX4_newBlock_2 : decode cX4_newBlock 2 = .ok (.iload_n 2, 1) := by decide +kernel
theorem dX4_newBlock_3 : decode cX4_newBlock 3 = .ok (.bipush 96, 2) := by decide +kernel
theorem dX4_newBlock_5 : decode cX4_newBlock 5 = .ok (.if_icmp .ge 37, 3) := by decide +kernel
theorem dX4_newBlock_8 : decode cX4_newBlock 8 = .ok (.aload_n 0, 1) := by decide +kernel
theorem dX4_newBlock_9 : decode cX4_newBlock 9 = .ok (.getfield 33, 3) := by decide +kernel
theorem dX4_newBlock_12 : decode cX4_newBlock 12 = .ok (.iload_n 2, 1) := by decide +kernel
theorem dX4_newBlock_13 : decode cX4_newBlock 13 = .ok (.iaload, 1) := by decide +kernel
theorem dX4_newBlock_14 : decode cX4_newBlock 14 = .ok (.ifCond .ne 22, 3) := by decide +kernel
theorem dX4_newBlock_17 : decode cX4_newBlock 17 = .ok (.aload_n 0, 1) := by decide +kernel
theorem dX4_newBlock_18 : decode cX4_newBlock 18 = .ok (.getfield 33, 3) := by decide +kernel
theorem dX4_newBlock_21 : decode cX4_newBlock 21 = .ok (.iload_n 2, 1) := by decide +kernel
theorem dX4_newBlock_22 : decode cX4_newBlock 22 = .ok (.iload_n 1, 1) := by decide +kernel
theorem dX4_newBlock_23 : decode cX4_newBlock 23 = .ok (.iastore, 1) := by decide +kernel
theorem dX4_newBlock_24 : decode cX4_newBlock 24 = .ok (.aload_n 0, 1) := by decide +kernel
theorem dX4_newBlock_25 : decode cX4_newBlock 25 = .ok (.getfield 36, 3) := by decide +kernel
theorem dX4_newBlock_28 : decode cX4_newBlock 28 = .ok (.iload_n 2, 1) := by decide +kernel
theorem dX4_newBlock_29 : decode cX4_newBlock 29 = .ok (.aload_n 0, 1) := by decide +kernel
theorem dX4_newBlock_30 : decode cX4_newBlock 30 = .ok (.getfield 39, 3) := by decide +kernel
theorem dX4_newBlock_33 : decode cX4_newBlock 33 = .ok (.iastore, 1) := by decide +kernel
theorem dX4_newBlock_34 : decode cX4_newBlock 34 = .ok (.iload_n 2, 1) := by decide +kernel
theorem dX4_newBlock_35 : decode cX4_newBlock 35 = .ok (.ireturn, 1) := by decide +kernel
theorem dX4_newBlock_36 : decode cX4_newBlock 36 = .ok (.iinc 2 1, 3) := by decide +kernel
theorem dX4_newBlock_39 : decode cX4_newBlock 39 = .ok (.goto (-37), 3) := by decide +kernel
theorem dX4_newBlock_42 : decode cX4_newBlock 42 = .ok (.bipush (-4), 2) := by decide +kernel
theorem dX4_newBlock_44 : decode cX4_newBlock 44 = .ok (.ireturn, 1) := by decide +kernel
theorem dX4_freeBlock_0 : decode cX4_freeBlock 0 = .ok (.iload_n 1, 1) := by decide +kernel
theorem dX4_freeBlock_1 : decode cX4_freeBlock 1 = .ok (.ifCond .lt 33, 3) := by decide +kernel
theorem dX4_freeBlock_4 : decode cX4_freeBlock 4 = .ok (.iload_n 1, 1) := by decide +kernel
theorem dX4_freeBlock_5 : decode cX4_freeBlock 5 = .ok (.bipush 96, 2) := by decide +kernel
theorem dX4_freeBlock_7 : decode cX4_freeBlock 7 = .ok (.if_icmp .ge 27, 3) := by decide +kernel
theorem dX4_freeBlock_10 : decode cX4_freeBlock 10 = .ok (.aload_n 0, 1) := by decide +kernel
theorem dX4_freeBlock_11 : decode cX4_freeBlock 11 = .ok (.getfield 33, 3) := by decide +kernel
theorem dX4_freeBlock_14 : decode cX4_freeBlock 14 = .ok (.iload_n 1, 1) := by decide +kernel
theorem dX4_freeBlock_15 : decode cX4_freeBlock 15 = .ok (.iconst 0, 1) := by decide +kernel
theorem dX4_freeBlock_16 : decode cX4_freeBlock 16 = .ok (.iastore, 1) := by decide +kernel
theorem dX4_freeBlock_17 : decode cX4_freeBlock 17 = .ok (.aload_n 0, 1) := by decide +kernel
theorem dX4_freeBlock_18 : decode cX4_freeBlock 18 = .ok (.getfield 36, 3) := by decide +kernel
theorem dX4_freeBlock_21 : decode cX4_freeBlock 21 = .ok (.iload_n 1, 1) := by decide +kernel
theorem dX4_freeBlock_22 : decode cX4_freeBlock 22 = .ok (.iconst 0, 1) := by decide +kernel
theorem dX4_freeBlock_23 : decode cX4_freeBlock 23 = .ok (.iastore, 1) := by decide +kernel
theorem dX4_freeBlock_24 : decode cX4_freeBlock 24 = .ok (.aload_n 0, 1) := by decide +kernel
theorem dX4_freeBlock_25 : decode cX4_freeBlock 25 = .ok (.dup, 1) := by decide +kernel
theorem dX4_freeBlock_26 : decode cX4_freeBlock 26 = .ok (.getfield 43, 3) := by decide +kernel
theorem dX4_freeBlock_29 : decode cX4_freeBlock 29 = .ok (.iconst 1, 1) := by decide +kernel
theorem dX4_freeBlock_30 : decode cX4_freeBlock 30 = .ok (.iadd, 1) := by decide +kernel
theorem dX4_freeBlock_31 : decode cX4_freeBlock 31 = .ok (.putfield 43, 3) := by decide +kernel
theorem dX4_freeBlock_34 : decode cX4_freeBlock 34 = .ok (.return_, 1) := by decide +kernel
theorem dX4_setSlot_0 : decode cX4_setSlot 0 = .ok (.iload_n 1, 1) := by decide +kernel
theorem dX4_setSlot_1 : decode cX4_setSlot 1 = .ok (.ifCond .lt 31, 3) := by decide +kernel
theorem dX4_setSlot_4 : decode cX4_setSlot 4 = .ok (.iload_n 1, 1) := by decide +kernel
theorem dX4_setSlot_5 : decode cX4_setSlot 5 = .ok (.bipush 20, 2) := by decide +kernel
theorem dX4_setSlot_7 : decode cX4_setSlot 7 = .ok (.if_icmp .ge 25, 3) := by decide +kernel
theorem dX4_setSlot_10 : decode cX4_setSlot 10 = .ok (.iload_n 2, 1) := by decide +kernel
theorem dX4_setSlot_11 : decode cX4_setSlot 11 = .ok (.ifCond .lt 21, 3) := by decide +kernel
theorem dX4_setSlot_14 : decode cX4_setSlot 14 = .ok (.iload_n 2, 1) := by decide +kernel
theorem dX4_setSlot_15 : decode cX4_setSlot 15 = .ok (.bipush 12, 2) := by decide +kernel
theorem dX4_setSlot_17 : decode cX4_setSlot 17 = .ok (.if_icmp .ge 15, 3) := by decide +kernel
theorem dX4_setSlot_20 : decode cX4_setSlot 20 = .ok (.aload_n 0, 1) := by decide +kernel
theorem dX4_setSlot_21 : decode cX4_setSlot 21 = .ok (.getfield 30, 3) := by decide +kernel
theorem dX4_setSlot_24 : decode cX4_setSlot 24 = .ok (.iload_n 1, 1) := by decide +kernel
theorem dX4_setSlot_25 : decode cX4_setSlot 25 = .ok (.bipush 12, 2) := by decide +kernel
theorem dX4_setSlot_27 : decode cX4_setSlot 27 = .ok (.imul, 1) := by decide +kernel
theorem dX4_setSlot_28 : decode cX4_setSlot 28 = .ok (.iload_n 2, 1) := by decide +kernel
theorem dX4_setSlot_29 : decode cX4_setSlot 29 = .ok (.iadd, 1) := by decide +kernel
theorem dX4_setSlot_30 : decode cX4_setSlot 30 = .ok (.iload_n 3, 1) := by decide +kernel
theorem dX4_setSlot_31 : decode cX4_setSlot 31 = .ok (.iastore, 1) := by decide +kernel
theorem dX4_setSlot_32 : decode cX4_setSlot 32 = .ok (.return_, 1) := by decide +kernel
set_option maxRecDepth 20000 in
theorem ggX4_copySlots_X4_blockIn : GoodIn wsX4_copySlots wsX4_blockIn := goodIn_r _ [5, 6, 11, 12, 13, 14, 15, 16, 17, 18, 19, 20, 21] (by decide +kernel) (by decide +kernel)
set_option maxRecDepth 20000 in
theorem gX4_copySlots_X4_blockIn : GoodIn wsX4_copySlots (wsV RX4 56 RX4 yX4_blockIn wsX4_blockIn) := goodIn_app (goodIn_of _ (by decide +kernel)) ggX4_copySlots_X4_blockIn
set_option maxRecDepth 20000 in
theorem ggX4_copySlots_X4_setSlot : GoodIn wsX4_copySlots wsX4_setSlot := goodIn_r _ [10, 6, 11, 12, 13, 14, 15, 16, 17, 18, 19, 20, 21] (by decide +kernel) (by decide +kernel)
set_option maxRecDepth 20000 in
theorem gX4_copySlots_X4_setSlot : GoodIn wsX4_copySlots (wsV RX4 88 RX4 yX4_setSlot wsX4_setSlot) := goodIn_app (goodIn_of _ (by decide +kernel)) ggX4_copySlots_X4_setSlot
theorem dX4_copySlots_0 : decode cX4_copySlots 0 = .ok (.iconst 0, 1) := by decide +kernel
theorem dX4_copySlots_1 : decode cX4_copySlots 1 = .ok (.istore_n 3, 1) := by decide +kernel
theorem dX4_copySlots_2 : decode cX4_copySlots 2 = .ok (.iload_n 3, 1) := by decide +kernel
theorem dX4_copySlots_3 : decode cX4_copySlots 3 = .ok (.bipush 12, 2) := by decide +kernel
theorem dX4_copySlots_5 : decode cX4_copySlots 5 = .ok (.if_icmp .ge 21, 3) := by decide +kernel
theorem dX4_copySlots_8 : decode cX4_copySlots 8 = .ok (.aload_n 0, 1) := by decide +kernel
theorem dX4_copySlots_9 : decode cX4_copySlots 9 = .ok (.iload_n 2, 1) := by decide +kernel
theorem dX4_copySlots_10 : decode cX4_copySlots 10 = .ok (.iload_n 3, 1) := by decide +kernel
theorem dX4_copySlots_11 : decode cX4_copySlots 11 = .ok (.aload_n 0, 1) := by decide +kernel
theorem dX4_copySlots_12 : decode cX4_copySlots 12 = .ok (.iload_n 1, 1) := by decide +kernel
theorem dX4_copySlots_13 : decode cX4_copySlots 13 = .ok (.iload_n 3, 1) := by decide +kernel
theorem dX4_copySlots_14 : decode cX4_copySlots 14 = .ok (.invokevirtual 56, 3) := by decide +kernel
theorem dX4_copySlots_17 : decode cX4_copySlots 17 = .ok (.invokevirtual 88, 3) := by decide +kernel
theorem dX4_copySlots_20 : decode cX4_copySlots 20 = .ok (.iinc 3 1, 3) := by decide +kernel
theorem dX4_copySlots_23 : decode cX4_copySlots 23 = .ok (.goto (-21), 3) := by decide +kernel
theorem dX4_copySlots_26 : decode cX4_copySlots 26 = .ok (.return_, 1) := by decide +kernel
theorem dX4_setPrev_0 : decode cX4_setPrev 0 = .ok (.iload_n 1, 1) := by decide +kernel
theorem dX4_setPrev_1 : decode cX4_setPrev 1 = .ok (.ifCond .lt 16, 3) := by decide +kernel
theorem dX4_setPrev_4 : decode cX4_setPrev 4 = .ok (.iload_n 1, 1) := by decide +kernel
theorem dX4_setPrev_5 : decode cX4_setPrev 5 = .ok (.bipush 20, 2) := by decide +kernel
theorem dX4_setPrev_7 : decode cX4_setPrev 7 = .ok (.if_icmp .ge 10, 3) := by decide +kernel
theorem dX4_setPrev_10 : decode cX4_setPrev 10 = .ok (.aload_n 0, 1) := by decide +kernel
theorem dX4_setPrev_11 : decode cX4_setPrev 11 = .ok (.getfield 18, 3) := by decide +kernel
theorem dX4_setPrev_14 : decode cX4_setPrev 14 = .ok (.iload_n 1, 1) := by decide +kernel
theorem dX4_setPrev_15 : decode cX4_setPrev 15 = .ok (.iload_n 2, 1) := by decide +kernel
theorem dX4_setPrev_16 : decode cX4_setPrev 16 = .ok (.iastore, 1) := by decide +kernel
theorem dX4_setPrev_17 : decode cX4_setPrev 17 = .ok (.return_, 1) := by decide +kernel
theorem dX4_setOwner_0 : decode cX4_setOwner 0 = .ok (.iload_n 1, 1) := by decide +kernel
theorem dX4_setOwner_1 : decode cX4_setOwner 1 = .ok (.ifCond .lt 16, 3) := by decide +kernel
theorem dX4_setOwner_4 : decode cX4_setOwner 4 = .ok (.iload_n 1, 1) := by decide +kernel
theorem dX4_setOwner_5 : decode cX4_setOwner 5 = .ok (.bipush 20, 2) := by decide +kernel
theorem dX4_setOwner_7 : decode cX4_setOwner 7 = .ok (.if_icmp .ge 10, 3) := by decide +kernel
theorem dX4_setOwner_10 : decode cX4_setOwner 10 = .ok (.aload_n 0, 1) := by decide +kernel
theorem dX4_setOwner_11 : decode cX4_setOwner 11 = .ok (.getfield 21, 3) := by decide +kernel
theorem dX4_setOwner_14 : decode cX4_setOwner 14 = .ok (.iload_n 1, 1) := by decide +kernel
theorem dX4_setOwner_15 : decode cX4_setOwner 15 = .ok (.iload_n 2, 1) := by decide +kernel
theorem dX4_setOwner_16 : decode cX4_setOwner 16 = .ok (.iastore, 1) := by decide +kernel
theorem dX4_setOwner_17 : decode cX4_setOwner 17 = .ok (.return_, 1) := by decide +kernel
theorem dX4_setTags_0 : decode cX4_setTags 0 = .ok (.iload_n 1, 1) := by decide +kernel
theorem dX4_setTags_1 : decode cX4_setTags 1 = .ok (.ifCond .lt 16, 3) := by decide +kernel
theorem dX4_setTags_4 : decode cX4_setTags 4 = .ok (.iload_n 1, 1) := by decide +kernel
theorem dX4_setTags_5 : decode cX4_setTags 5 = .ok (.bipush 20, 2) := by decide +kernel
theorem dX4_setTags_7 : decode cX4_setTags 7 = .ok (.if_icmp .ge 10, 3) := by decide +kernel
theorem dX4_setTags_10 : decode cX4_setTags 10 = .ok (.aload_n 0, 1) := by decide +kernel
theorem dX4_setTags_11 : decode cX4_setTags 11 = .ok (.getfield 24, 3) := by decide +kernel
theorem dX4_setTags_14 : decode cX4_setTags 14 = .ok (.iload_n 1, 1) := by decide +kernel
theorem dX4_setTags_15 : decode cX4_setTags 15 = .ok (.iload_n 2, 1) := by decide +kernel
theorem dX4_setTags_16 : decode cX4_setTags 16 = .ok (.iastore, 1) := by decide +kernel
theorem dX4_setTags_17 : decode cX4_setTags 17 = .ok (.return_, 1) := by decide +kernel
theorem dX4_setQuota_0 : decode cX4_setQuota 0 = .ok (.iload_n 1, 1) := by decide +kernel
theorem dX4_setQuota_1 : decode cX4_setQuota 1 = .ok (.ifCond .lt 16, 3) := by decide +kernel
theorem dX4_setQuota_4 : decode cX4_setQuota 4 = .ok (.iload_n 1, 1) := by decide +kernel
theorem dX4_setQuota_5 : decode cX4_setQuota 5 = .ok (.bipush 20, 2) := by decide +kernel
theorem dX4_setQuota_7 : decode cX4_setQuota 7 = .ok (.if_icmp .ge 10, 3) := by decide +kernel
theorem dX4_setQuota_10 : decode cX4_setQuota 10 = .ok (.aload_n 0, 1) := by decide +kernel
theorem dX4_setQuota_11 : decode cX4_setQuota 11 = .ok (.getfield 27, 3) := by decide +kernel
theorem dX4_setQuota_14 : decode cX4_setQuota 14 = .ok (.iload_n 1, 1) := by decide +kernel
theorem dX4_setQuota_15 : decode cX4_setQuota 15 = .ok (.iload_n 2, 1) := by decide +kernel
theorem dX4_setQuota_16 : decode cX4_setQuota 16 = .ok (.iastore, 1) := by decide +kernel
theorem dX4_setQuota_17 : decode cX4_setQuota 17 = .ok (.return_, 1) := by decide +kernel
theorem dX4_setTime_0 : decode cX4_setTime 0 = .ok (.aload_n 0, 1) := by decide +kernel
theorem dX4_setTime_1 : decode cX4_setTime 1 = .ok (.iload_n 1, 1) := by decide +kernel
theorem dX4_setTime_2 : decode cX4_setTime 2 = .ok (.putfield 39, 3) := by decide +kernel
theorem dX4_setTime_5 : decode cX4_setTime 5 = .ok (.return_, 1) := by decide +kernel
theorem dX5_init_0 : decode cX5_init 0 = .ok (.aload_n 0, 1) := by decide +kernel
theorem dX5_init_1 : decode cX5_init 1 = .ok (.invokespecial 3, 3) := by decide +kernel
theorem dX5_init_4 : decode cX5_init 4 = .ok (.aload_n 0, 1) := by decide +kernel
theorem dX5_init_5 : decode cX5_init 5 = .ok (.bipush 40, 2) := by decide +kernel
theorem dX5_init_7 : decode cX5_init 7 = .ok (.newarray .long, 2) := by decide +kernel
theorem dX5_init_9 : decode cX5_init 9 = .ok (.putfield 9, 3) := by decide +kernel
theorem dX5_init_12 : decode cX5_init 12 = .ok (.aload_n 0, 1) := by decide +kernel
theorem dX5_init_13 : decode cX5_init 13 = .ok (.iconst (-1), 1) := by decide +kernel
theorem dX5_init_14 : decode cX5_init 14 = .ok (.putfield 15, 3) := by decide +kernel
theorem dX5_init_17 : decode cX5_init 17 = .ok (.aload_n 0, 1) := by decide +kernel
theorem dX5_init_18 : decode cX5_init 18 = .ok (.iconst 0, 1) := by decide +kernel
theorem dX5_init_19 : decode cX5_init 19 = .ok (.putfield 19, 3) := by decide +kernel
theorem dX5_init_22 : decode cX5_init 22 = .ok (.return_, 1) := by decide +kernel
theorem dX5_layAside_0 : decode cX5_layAside 0 = .ok (.aload_n 0, 1) := by decide +kernel
theorem dX5_layAside_1 : decode cX5_layAside 1 = .ok (.iconst (-1), 1) := by decide +kernel
theorem dX5_layAside_2 : decode cX5_layAside 2 = .ok (.putfield 15, 3) := by decide +kernel
theorem dX5_layAside_5 : decode cX5_layAside 5 = .ok (.aload_n 0, 1) := by decide +kernel
theorem dX5_layAside_6 : decode cX5_layAside 6 = .ok (.iconst 0, 1) := by decide +kernel
theorem dX5_layAside_7 : decode cX5_layAside 7 = .ok (.putfield 19, 3) := by decide +kernel
theorem dX5_layAside_10 : decode cX5_layAside 10 = .ok (.return_, 1) := by decide +kernel
theorem dX5_layOut_0 : decode cX5_layOut 0 = .ok (.aload_n 0, 1) := by decide +kernel
theorem dX5_layOut_1 : decode cX5_layOut 1 = .ok (.iload_n 1, 1) := by decide +kernel
theorem dX5_layOut_2 : decode cX5_layOut 2 = .ok (.putfield 15, 3) := by decide +kernel
theorem dX5_layOut_5 : decode cX5_layOut 5 = .ok (.aload_n 0, 1) := by decide +kernel
theorem dX5_layOut_6 : decode cX5_layOut 6 = .ok (.iconst 0, 1) := by decide +kernel
theorem dX5_layOut_7 : decode cX5_layOut 7 = .ok (.iload_n 2, 1) := by decide +kernel
theorem dX5_layOut_8 : decode cX5_layOut 8 = .ok (.bipush 40, 2) := by decide +kernel
theorem dX5_layOut_10 : decode cX5_layOut 10 = .ok (.invokestatic 22, 3) := by decide +kernel
theorem dX5_layOut_13 : decode cX5_layOut 13 = .ok (.invokestatic 28, 3) := by decide +kernel
theorem dX5_layOut_16 : decode cX5_layOut 16 = .ok (.putfield 19, 3) := by decide +kernel
theorem dX5_layOut_19 : decode cX5_layOut 19 = .ok (.iconst 0, 1) := by decide +kernel
theorem dX5_layOut_20 : decode cX5_layOut 20 = .ok (.istore_n 3, 1) := by decide +kernel
theorem dX5_layOut_21 : decode cX5_layOut 21 = .ok (.iload_n 3, 1) := by decide +kernel
theorem dX5_layOut_22 : decode cX5_layOut 22 = .ok (.bipush 40, 2) := by decide +kernel
theorem dX5_layOut_24 : decode cX5_layOut 24 = .ok (.if_icmp .ge 16, 3) := by decide +kernel
theorem dX5_layOut_27 : decode cX5_layOut 27 = .ok (.aload_n 0, 1) := by decide +kernel
theorem dX5_layOut_28 : decode cX5_layOut 28 = .ok (.getfield 9, 3) := by decide +kernel
theorem dX5_layOut_31 : decode cX5_layOut 31 = .ok (.iload_n 3, 1) := by decide +kernel
theorem dX5_layOut_32 : decode cX5_layOut 32 = .ok (.lconst 0, 1) := by decide +kernel
theorem dX5_layOut_33 : decode cX5_layOut 33 = .ok (.lastore, 1) := by decide +kernel
theorem dX5_layOut_34 : decode cX5_layOut 34 = .ok (.iinc 3 1, 3) := by decide +kernel
theorem dX5_layOut_37 : decode cX5_layOut 37 = .ok (.goto (-16), 3) := by decide +kernel
theorem dX5_layOut_40 : decode cX5_layOut 40 = .ok (.return_, 1) := by decide +kernel
theorem dX5_isMissing_0 : decode cX5_isMissing 0 = .ok (.aload_n 0, 1) := by decide +kernel
theorem dX5_isMissing_1 : decode cX5_isMissing 1 = .ok (.getfield 15, 3) := by decide +kernel
theorem dX5_isMissing_4 : decode cX5_isMissing 4 = .ok (.iconst (-1), 1) := by decide +kernel
theorem dX5_isMissing_5 : decode cX5_isMissing 5 = .ok (.if_icmp .ne 7, 3) := by decide +kernel
theorem dX5_isMissing_8 : decode cX5_isMissing 8 = .ok (.iconst 1, 1) := by decide +kernel
theorem dX5_isMissing_9 : decode cX5_isMissing 9 = .ok (.goto 4, 3) := by decide +kernel
theorem dX5_isMissing_12 : decode cX5_isMissing 12 = .ok (.iconst 0, 1) := by decide +kernel
theorem dX5_isMissing_13 : decode cX5_isMissing 13 = .ok (.ireturn, 1) := by decide +kernel
set_option maxRecDepth 20000 in
theorem ggX5_refusalAsSort_X5_isMissing : GoodIn wsX5_refusalAsSort wsX5_isMissing := goodIn_r _ [6, 1, 7, 8, 9] (by decide +kernel) (by decide +kernel)
set_option maxRecDepth 20000 in
theorem gX5_refusalAsSort_X5_isMissing : GoodIn wsX5_refusalAsSort (wsV RX5 31 RX5 yX5_isMissing wsX5_isMissing) := goodIn_app (goodIn_of _ (by decide +kernel)) ggX5_refusalAsSort_X5_isMissing
theorem dX5_refusalAsSort_0 : decode cX5_refusalAsSort 0 = .ok (.aload_n 0, 1) := by decide +kernel
theorem dX5_refusalAsSort_1 : decode cX5_refusalAsSort 1 = .ok (.invokevirtual 31, 3) := by decide +kernel
theorem dX5_refusalAsSort_4 : decode cX5_refusalAsSort 4 = .ok (.ifCond .eq 6, 3) := by decide +kernel
theorem dX5_refusalAsSort_7 : decode cX5_refusalAsSort 7 = .ok (.bipush (-11), 2) := by decide +kernel
theorem dX5_refusalAsSort_9 : decode cX5_refusalAsSort 9 = .ok (.ireturn, 1) := by decide +kernel
theorem dX5_refusalAsSort_10 : decode cX5_refusalAsSort 10 = .ok (.aload_n 0, 1) := by decide +kernel
theorem dX5_refusalAsSort_11 : decode cX5_refusalAsSort 11 = .ok (.getfield 15, 3) := by decide +kernel
theorem dX5_refusalAsSort_14 : decode cX5_refusalAsSort 14 = .ok (.iload_n 1, 1) := by decide +kernel
theorem dX5_refusalAsSort_15 : decode cX5_refusalAsSort 15 = .ok (.if_icmp .ne 7, 3) := by decide +kernel
theorem dX5_refusalAsSort_18 : decode cX5_refusalAsSort 18 = .ok (.iconst 0, 1) := by decide +kernel
theorem dX5_refusalAsSort_19 : decode cX5_refusalAsSort 19 = .ok (.goto 5, 3) := by decide +kernel
theorem dX5_refusalAsSort_22 : decode cX5_refusalAsSort 22 = .ok (.bipush (-13), 2) := by decide +kernel
theorem dX5_refusalAsSort_24 : decode cX5_refusalAsSort 24 = .ok (.ireturn, 1) := by decide +kernel
theorem dX5_size_0 : decode cX5_size 0 = .ok (.aload_n 0, 1) := by decide +kernel
theorem dX5_size_1 : decode cX5_size 1 = .ok (.getfield 19, 3) := by decide +kernel
theorem dX5_size_4 : decode cX5_size 4 = .ok (.ireturn, 1) := by decide +kernel
theorem dX5_has_0 : decode cX5_has 0 = .ok (.iload_n 1, 1) := by decide +kernel
theorem dX5_has_1 : decode cX5_has 1 = .ok (.ifCond .lt 21, 3) := by decide +kernel
theorem dX5_has_4 : decode cX5_has 4 = .ok (.iload_n 1, 1) := by decide +kernel
theorem dX5_has_5 : decode cX5_has 5 = .ok (.aload_n 0, 1) := by decide +kernel
theorem dX5_has_6 : decode cX5_has 6 = .ok (.getfield 19, 3) := by decide +kernel
theorem dX5_has_9 : decode cX5_has 9 = .ok (.if_icmp .ge 13, 3) := by decide +kernel
theorem dX5_has_12 : decode cX5_has 12 = .ok (.iload_n 1, 1) := by decide +kernel
theorem dX5_has_13 : decode cX5_has 13 = .ok (.bipush 40, 2) := by decide +kernel
theorem dX5_has_15 : decode cX5_has 15 = .ok (.if_icmp .ge 7, 3) := by decide +kernel
theorem dX5_has_18 : decode cX5_has 18 = .ok (.iconst 1, 1) := by decide +kernel
theorem dX5_has_19 : decode cX5_has 19 = .ok (.goto 4, 3) := by decide +kernel
theorem dX5_has_22 : decode cX5_has 22 = .ok (.iconst 0, 1) := by decide +kernel
theorem dX5_has_23 : decode cX5_has 23 = .ok (.ireturn, 1) := by decide +kernel
set_option maxRecDepth 20000 in
theorem ggX5_at_X5_has : GoodIn wsX5_at wsX5_has := goodIn_r _ [6, 7, 8, 9, 10] (by decide +kernel) (by decide +kernel)
set_option maxRecDepth 20000 in
theorem gX5_at_X5_has : GoodIn wsX5_at (wsV RX5 35 RX5 yX5_has wsX5_has) := goodIn_app (goodIn_of _ (by decide +kernel)) ggX5_at_X5_has
theorem dX5_at_0 : decode cX5_at 0 = .ok (.aload_n 0, 1) := by decide +kernel
theorem dX5_at_1 : decode cX5_at 1 = .ok (.iload_n 1, 1) := by decide +kernel
theorem dX5_at_2 : decode cX5_at 2 = .ok (.invokevirtual 35, 3) := by decide +kernel
theorem dX5_at_5 : decode cX5_at 5 = .ok (.ifCond .eq 12, 3) := by decide +kernel
theorem dX5_at_8 : decode cX5_at 8 = .ok (.aload_n 0, 1) := by decide +kernel
theorem dX5_at_9 : decode cX5_at 9 = .ok (.getfield 9, 3) := by decide +kernel
theorem dX5_at_12 : decode cX5_at 12 = .ok (.iload_n 1, 1) := by decide +kernel
theorem dX5_at_13 : decode cX5_at 13 = .ok (.laload, 1) := by decide +kernel
theorem dX5_at_14 : decode cX5_at 14 = .ok (.goto 4, 3) := by decide +kernel
theorem dX5_at_17 : decode cX5_at 17 = .ok (.lconst 0, 1) := by decide +kernel
theorem dX5_at_18 : decode cX5_at 18 = .ok (.lreturn, 1) := by decide +kernel
theorem dX5_put_0 : decode cX5_put 0 = .ok (.iload_n 1, 1) := by decide +kernel
theorem dX5_put_1 : decode cX5_put 1 = .ok (.ifCond .lt 17, 3) := by decide +kernel
theorem dX5_put_4 : decode cX5_put 4 = .ok (.iload_n 1, 1) := by decide +kernel
theorem dX5_put_5 : decode cX5_put 5 = .ok (.aload_n 0, 1) := by decide +kernel
theorem dX5_put_6 : decode cX5_put 6 = .ok (.getfield 19, 3) := by decide +kernel
theorem dX5_put_9 : decode cX5_put 9 = .ok (.if_icmp .ge 9, 3) := by decide +kernel
theorem dX5_put_12 : decode cX5_put 12 = .ok (.iload_n 1, 1) := by decide +kernel
theorem dX5_put_13 : decode cX5_put 13 = .ok (.bipush 40, 2) := by decide +kernel
theorem dX5_put_15 : decode cX5_put 15 = .ok (.if_icmp .lt 5, 3) := by decide +kernel
theorem dX5_put_18 : decode cX5_put 18 = .ok (.iconst 0, 1) := by decide +kernel
theorem dX5_put_19 : decode cX5_put 19 = .ok (.ireturn, 1) := by decide +kernel
theorem dX5_put_20 : decode cX5_put 20 = .ok (.aload_n 0, 1) := by decide +kernel
theorem dX5_put_21 : decode cX5_put 21 = .ok (.getfield 9, 3) := by decide +kernel
theorem dX5_put_24 : decode cX5_put 24 = .ok (.iload_n 1, 1) := by decide +kernel
theorem dX5_put_25 : decode cX5_put 25 = .ok (.aload_n 0, 1) := by decide +kernel
theorem dX5_put_26 : decode cX5_put 26 = .ok (.getfield 15, 3) := by decide +kernel
theorem dX5_put_29 : decode cX5_put 29 = .ok (.ifCond .ne 9, 3) := by decide +kernel
theorem dX5_put_32 : decode cX5_put 32 = .ok (.lload_n 2, 1) := by decide +kernel
theorem dX5_put_33 : decode cX5_put 33 = .ok (.l2i, 1) := by decide +kernel
theorem dX5_put_34 : decode cX5_put 34 = .ok (.i2l, 1) := by decide +kernel
theorem dX5_put_35 : decode cX5_put 35 = .ok (.goto 4, 3) := by decide +kernel
theorem dX5_put_38 : decode cX5_put 38 = .ok (.lload_n 2, 1) := by decide +kernel
theorem dX5_put_39 : decode cX5_put 39 = .ok (.lastore, 1) := by decide +kernel
theorem dX5_put_40 : decode cX5_put 40 = .ok (.iconst 1, 1) := by decide +kernel
theorem dX5_put_41 : decode cX5_put 41 = .ok (.ireturn, 1) := by decide +kernel
set_option maxRecDepth 20000 in
theorem ggX5_append_X5_put : GoodIn wsX5_append wsX5_put := goodIn_r _ [6, 1, 7, 8, 9, 10, 11] (by decide +kernel) (by decide +kernel)
set_option maxRecDepth 20000 in
theorem gX5_append_X5_put : GoodIn wsX5_append (wsV RX5 39 RX5 yX5_put wsX5_put) := goodIn_app (goodIn_of _ (by decide +kernel)) ggX5_append_X5_put
theorem dX5_append_0 : decode cX5_append 0 = .ok (.aload_n 0, 1) := by decide +kernel
theorem dX5_append_1 : decode cX5_append 1 = .ok (.getfield 19, 3) := by decide +kernel
theorem dX5_append_4 : decode cX5_append 4 = .ok (.bipush 40, 2) := by decide +kernel
theorem dX5_append_6 : decode cX5_append 6 = .ok (.if_icmp .ge 25, 3) := by decide +kernel
theorem dX5_append_9 : decode cX5_append 9 = .ok (.aload_n 0, 1) := by decide +kernel
theorem dX5_append_10 : decode cX5_append 10 = .ok (.dup, 1) := by decide +kernel
theorem dX5_append_11 : decode cX5_append 11 = .ok (.getfield 19, 3) := by decide +kernel
theorem dX5_append_14 : decode cX5_append 14 = .ok (.iconst 1, 1) := by decide +kernel
theorem dX5_append_15 : decode cX5_append 15 = .ok (.iadd, 1) := by decide +kernel
theorem dX5_append_16 : decode cX5_append 16 = .ok (.putfield 19, 3) := by decide +kernel
theorem dX5_append_19 : decode cX5_append 19 = .ok (.aload_n 0, 1) := by decide +kernel
theorem dX5_append_20 : decode cX5_append 20 = .ok (.aload_n 0, 1) := by decide +kernel
theorem dX5_append_21 : decode cX5_append 21 = .ok (.getfield 19, 3) := by decide +kernel
theorem dX5_append_24 : decode cX5_append 24 = .ok (.iconst 1, 1) := by decide +kernel
theorem dX5_append_25 : decode cX5_append 25 = .ok (.isub, 1) := by decide +kernel
theorem dX5_append_26 : decode cX5_append 26 = .ok (.lload_n 1, 1) := by decide +kernel
theorem dX5_append_27 : decode cX5_append 27 = .ok (.invokevirtual 39, 3) := by decide +kernel
theorem dX5_append_30 : decode cX5_append 30 = .ok (.pop, 1) := by decide +kernel
theorem dX5_append_31 : decode cX5_append 31 = .ok (.return_, 1) := by decide +kernel
set_option maxRecDepth 20000 in
theorem ggX6_init_X2_init : GoodIn wsX6_init wsX2_init := goodIn_r _ [11, 12, 2, 3, 13, 14, 15, 18, 19] (by decide +kernel) (by decide +kernel)
set_option maxRecDepth 20000 in
theorem gX6_init_X2_init : GoodIn wsX6_init (wsX2_init) := ggX6_init_X2_init
theorem dX6_init_0 : decode cX6_init 0 = .ok (.aload_n 0, 1) := by decide +kernel
theorem dX6_init_1 : decode cX6_init 1 = .ok (.invokespecial 3, 3) := by decide +kernel
theorem dX6_init_4 : decode cX6_init 4 = .ok (.aload_n 0, 1) := by decide +kernel
theorem dX6_init_5 : decode cX6_init 5 = .ok (.aload_n 1, 1) := by decide +kernel
theorem dX6_init_6 : decode cX6_init 6 = .ok (.putfield 9, 3) := by decide +kernel
theorem dX6_init_9 : decode cX6_init 9 = .ok (.aload_n 0, 1) := by decide +kernel
theorem dX6_init_10 : decode cX6_init 10 = .ok (.new 15, 3) := by decide +kernel
theorem dX6_init_13 : decode cX6_init 13 = .ok (.dup, 1) := by decide +kernel
theorem dX6_init_14 : decode cX6_init 14 = .ok (.aload_n 1, 1) := by decide +kernel
theorem dX6_init_15 : decode cX6_init 15 = .ok (.invokespecial 17, 3) := by decide +kernel
theorem dX6_init_18 : decode cX6_init 18 = .ok (.putfield 20, 3) := by decide +kernel
theorem dX6_init_21 : decode cX6_init 21 = .ok (.return_, 1) := by decide +kernel
set_option maxRecDepth 20000 in
theorem ggX6_tellThing_X4_refusalOfNumber : GoodIn wsX6_tellThing wsX4_refusalOfNumber := goodIn_r _ [6, 7, 72, 73, 74, 75, 76, 77, 78, 79, 80, 81, 82] (by decide +kernel) (by decide +kernel)
set_option maxRecDepth 20000 in
theorem gX6_tellThing_X4_refusalOfNumber : GoodIn wsX6_tellThing (wsV RX6 24 RX4 yX4_refusalOfNumber wsX4_refusalOfNumber) := goodIn_app (goodIn_of _ (by decide +kernel)) ggX6_tellThing_X4_refusalOfNumber
set_option maxRecDepth 20000 in
theorem ggX6_tellThing_X4_kindOf : GoodIn wsX6_tellThing wsX4_kindOf := goodIn_r _ [11, 7, 72, 73, 74, 75, 76, 77, 78, 79, 80, 81, 82] (by decide +kernel) (by decide +kernel)
set_option maxRecDepth 20000 in
theorem gX6_tellThing_X4_kindOf : GoodIn wsX6_tellThing (wsV RX6 30 RX4 yX4_kindOf wsX4_kindOf) := goodIn_app (goodIn_of _ (by decide +kernel)) ggX6_tellThing_X4_kindOf
set_option maxRecDepth 20000 in
theorem ggX6_tellThing_X4_madeOf : GoodIn wsX6_tellThing wsX4_madeOf := goodIn_r _ [15, 16, 72, 73, 74, 75, 76, 77, 78, 79, 80, 81, 82] (by decide +kernel) (by decide +kernel)
set_option maxRecDepth 20000 in
theorem gX6_tellThing_X4_madeOf : GoodIn wsX6_tellThing (wsV RX6 33 RX4 yX4_madeOf wsX4_madeOf) := goodIn_app (goodIn_of _ (by decide +kernel)) ggX6_tellThing_X4_madeOf
set_option maxRecDepth 20000 in
theorem ggX6_tellThing_X4_prevOf : GoodIn wsX6_tellThing wsX4_prevOf := goodIn_r _ [20, 21, 72, 73, 74, 75, 76, 77, 78, 79, 80, 81, 82] (by decide +kernel) (by decide +kernel)
set_option maxRecDepth 20000 in
theorem gX6_tellThing_X4_prevOf : GoodIn wsX6_tellThing (wsV RX6 36 RX4 yX4_prevOf wsX4_prevOf) := goodIn_app (goodIn_of _ (by decide +kernel)) ggX6_tellThing_X4_prevOf
set_option maxRecDepth 20000 in
theorem ggX6_tellThing_X4_ownerOf : GoodIn wsX6_tellThing wsX4_ownerOf := goodIn_r _ [25, 26, 72, 73, 74, 75, 76, 77, 78, 79, 80, 81, 82] (by decide +kernel) (by decide +kernel)
set_option maxRecDepth 20000 in
theorem gX6_tellThing_X4_ownerOf : GoodIn wsX6_tellThing (wsV RX6 39 RX4 yX4_ownerOf wsX4_ownerOf) := goodIn_app (goodIn_of _ (by decide +kernel)) ggX6_tellThing_X4_ownerOf
set_option maxRecDepth 20000 in
theorem ggX6_tellThing_X4_originOf : GoodIn wsX6_tellThing wsX4_originOf := goodIn_r _ [30, 31, 32, 33, 5, 34, 35, 9, 10, 11, 7, 36, 37, 38, 39, 26, 40, 41, 42, 43, 44, 18, 19, 20, 21, 72, 73, 74, 75, 76, 77, 78, 79, 80, 81, 82] (by decide +kernel) (by decide +kernel)
set_option maxRecDepth 20000 in
theorem gX6_tellThing_X4_originOf : GoodIn wsX6_tellThing (wsV RX6 42 RX4 yX4_originOf wsX4_originOf) := goodIn_app (goodIn_of _ (by decide +kernel)) ggX6_tellThing_X4_originOf
set_option maxRecDepth 20000 in
theorem ggX6_tellThing_X4_nextCount : GoodIn wsX6_tellThing wsX4_nextCount := goodIn_r _ [48, 21, 72, 73, 74, 75, 76, 77, 78, 79, 80, 81, 82] (by decide +kernel) (by decide +kernel)
set_option maxRecDepth 20000 in
theorem gX6_tellThing_X4_nextCount : GoodIn wsX6_tellThing (wsV RX6 45 RX4 yX4_nextCount wsX4_nextCount) := goodIn_app (goodIn_of _ (by decide +kernel)) ggX6_tellThing_X4_nextCount
set_option maxRecDepth 20000 in
theorem ggX6_tellThing_X6_heldCount : GoodIn wsX6_tellThing wsX6_heldCount := goodIn_r _ [53, 1, 54, 55, 56, 5, 57, 58, 70, 71, 72, 73, 74, 75, 76, 77, 78, 79, 80, 81, 82] (by decide +kernel) (by decide +kernel)
set_option maxRecDepth 20000 in
theorem gX6_tellThing_X6_heldCount : GoodIn wsX6_tellThing (wsV RX6 48 RX6 yX6_heldCount wsX6_heldCount) := goodIn_app (goodIn_of _ (by decide +kernel)) ggX6_tellThing_X6_heldCount
set_option maxRecDepth 20000 in
theorem ggX6_tellThing_X4_tagsOf : GoodIn wsX6_tellThing wsX4_tagsOf := goodIn_r _ [62, 63, 72, 73, 74, 75, 76, 77, 78, 79, 80, 81, 82] (by decide +kernel) (by decide +kernel)
set_option maxRecDepth 20000 in
theorem gX6_tellThing_X4_tagsOf : GoodIn wsX6_tellThing (wsV RX6 51 RX4 yX4_tagsOf wsX4_tagsOf) := goodIn_app (goodIn_of _ (by decide +kernel)) ggX6_tellThing_X4_tagsOf
set_option maxRecDepth 20000 in
theorem ggX6_tellThing_X4_quotaOf : GoodIn wsX6_tellThing wsX4_quotaOf := goodIn_r _ [67, 68, 72, 73, 74, 75, 76, 77, 78, 79, 80, 81, 82] (by decide +kernel) (by decide +kernel)
set_option maxRecDepth 20000 in
theorem gX6_tellThing_X4_quotaOf : GoodIn wsX6_tellThing (wsV RX6 54 RX4 yX4_quotaOf wsX4_quotaOf) := goodIn_app (goodIn_of _ (by decide +kernel)) ggX6_tellThing_X4_quotaOf
set_option maxRecDepth 20000 in
theorem ggX6_tellThing_X4_ownCount : GoodIn wsX6_tellThing wsX4_ownCount := goodIn_r _ [39, 26, 72, 73, 74, 75, 76, 77, 78, 79, 80, 81, 82] (by decide +kernel) (by decide +kernel)
set_option maxRecDepth 20000 in
theorem gX6_tellThing_X4_ownCount : GoodIn wsX6_tellThing (wsV RX6 57 RX4 yX4_ownCount wsX4_ownCount) := goodIn_app (goodIn_of _ (by decide +kernel)) ggX6_tellThing_X4_ownCount
theorem dX6_tellThing_0 : decode cX6_tellThing 0 = .ok (.iload_n 2, 1) := by decide +kernel
theorem dX6_tellThing_1 : decode cX6_tellThing 1 = .ok (.ifCond .lt 9, 3) := by decide +kernel
theorem dX6_tellThing_4 : decode cX6_tellThing 4 = .ok (.iload_n 2, 1) := by decide +kernel
theorem dX6_tellThing_5 : decode cX6_tellThing 5 = .ok (.bipush 9, 2) := by decide +kernel
theorem dX6_tellThing_7 : decode cX6_tellThing 7 = .ok (.if_icmp .le 6, 3) := by decide +kernel
theorem dX6_tellThing_10 : decode cX6_tellThing 10 = .ok (.bipush (-2), 2) := by decide +kernel
theorem dX6_tellThing_12 : decode cX6_tellThing 12 = .ok (.ireturn, 1) := by decide +kernel
theorem dX6_tellThing_13 : decode cX6_tellThing 13 = .ok (.aload_n 0, 1) := by decide +kernel
theorem dX6_tellThing_14 : decode cX6_tellThing 14 = .ok (.getfield 9, 3) := by decide +kernel
theorem dX6_tellThing_17 : decode cX6_tellThing 17 = .ok (.iload_n 1, 1) := by decide +kernel
theorem dX6_tellThing_18 : decode cX6_tellThing 18 = .ok (.invokevirtual 24, 3) := by decide +kernel
theorem dX6_tellThing_21 : decode cX6_tellThing 21 = .ok (.istore_n 3, 1) := by decide +kernel
theorem dX6_tellThing_22 : decode cX6_tellThing 22 = .ok (.iload_n 3, 1) := by decide +kernel
theorem dX6_tellThing_23 : decode cX6_tellThing 23 = .ok (.ifCond .eq 5, 3) := by decide +kernel
theorem dX6_tellThing_26 : decode cX6_tellThing 26 = .ok (.iload_n 3, 1) := by decide +kernel
theorem dX6_tellThing_27 : decode cX6_tellThing 27 = .ok (.ireturn, 1) := by decide +kernel
theorem dX6_tellThing_28 : decode cX6_tellThing 28 = .ok (.iload_n 2, 1) := by decide +kernel
theorem dX6_tellThing_29 : decode cX6_tellThing 29 = .ok (.tableswitch 129 0 8 #[51, 60, 69, 78, 87, 96, 105, 111, 120], 51) := by decide +kernel
theorem dX6_tellThing_80 : decode cX6_tellThing 80 = .ok (.aload_n 0, 1) := by decide +kernel
theorem dX6_tellThing_81 : decode cX6_tellThing 81 = .ok (.getfield 9, 3) := by decide +kernel
theorem dX6_tellThing_84 : decode cX6_tellThing 84 = .ok (.iload_n 1, 1) := by decide +kernel
theorem dX6_tellThing_85 : decode cX6_tellThing 85 = .ok (.invokevirtual 30, 3) := by decide +kernel
theorem dX6_tellThing_88 : decode cX6_tellThing 88 = .ok (.ireturn, 1) := by decide +kernel
theorem dX6_tellThing_89 : decode cX6_tellThing 89 = .ok (.aload_n 0, 1) := by decide +kernel
theorem dX6_tellThing_90 : decode cX6_tellThing 90 = .ok (.getfield 9, 3) := by decide +kernel
theorem dX6_tellThing_93 : decode cX6_tellThing 93 = .ok (.iload_n 1, 1) := by decide +kernel
theorem dX6_tellThing_94 : decode cX6_tellThing 94 = .ok (.invokevirtual 33, 3) := by decide +kernel
theorem dX6_tellThing_97 : decode cX6_tellThing 97 = .ok (.ireturn, 1) := by decide +kernel
theorem dX6_tellThing_98 : decode cX6_tellThing 98 = .ok (.aload_n 0, 1) := by decide +kernel
theorem dX6_tellThing_99 : decode cX6_tellThing 99 = .ok (.getfield 9, 3) := by decide +kernel
theorem dX6_tellThing_102 : decode cX6_tellThing 102 = .ok (.iload_n 1, 1) := by decide +kernel
theorem dX6_tellThing_103 : decode cX6_tellThing 103 = .ok (.invokevirtual 36, 3) := by decide +kernel
theorem dX6_tellThing_106 : decode cX6_tellThing 106 = .ok (.ireturn, 1) := by decide +kernel
theorem dX6_tellThing_107 : decode cX6_tellThing 107 = .ok (.aload_n 0, 1) := by decide +kernel
theorem dX6_tellThing_108 : decode cX6_tellThing 108 = .ok (.getfield 9, 3) := by decide +kernel
theorem dX6_tellThing_111 : decode cX6_tellThing 111 = .ok (.iload_n 1, 1) := by decide +kernel
theorem dX6_tellThing_112 : decode cX6_tellThing 112 = .ok (.invokevirtual 39, 3) := by decide +kernel
theorem dX6_tellThing_115 : decode cX6_tellThing 115 = .ok (.ireturn, 1) := by decide +kernel
theorem dX6_tellThing_116 : decode cX6_tellThing 116 = .ok (.aload_n 0, 1) := by decide +kernel
theorem dX6_tellThing_117 : decode cX6_tellThing 117 = .ok (.getfield 9, 3) := by decide +kernel
theorem dX6_tellThing_120 : decode cX6_tellThing 120 = .ok (.iload_n 1, 1) := by decide +kernel
theorem dX6_tellThing_121 : decode cX6_tellThing 121 = .ok (.invokevirtual 42, 3) := by decide +kernel
theorem dX6_tellThing_124 : decode cX6_tellThing 124 = .ok (.ireturn, 1) := by decide +kernel
theorem dX6_tellThing_125 : decode cX6_tellThing 125 = .ok (.aload_n 0, 1) := by decide +kernel
theorem dX6_tellThing_126 : decode cX6_tellThing 126 = .ok (.getfield 9, 3) := by decide +kernel
theorem dX6_tellThing_129 : decode cX6_tellThing 129 = .ok (.iload_n 1, 1) := by decide +kernel
theorem dX6_tellThing_130 : decode cX6_tellThing 130 = .ok (.invokevirtual 45, 3) := by decide +kernel
theorem dX6_tellThing_133 : decode cX6_tellThing 133 = .ok (.ireturn, 1) := by decide +kernel
theorem dX6_tellThing_134 : decode cX6_tellThing 134 = .ok (.aload_n 0, 1) := by decide +kernel
theorem dX6_tellThing_135 : decode cX6_tellThing 135 = .ok (.iload_n 1, 1) := by decide +kernel
theorem dX6_tellThing_136 : decode cX6_tellThing 136 = .ok (.invokevirtual 48, 3) := by decide +kernel
theorem dX6_tellThing_139 : decode cX6_tellThing 139 = .ok (.ireturn, 1) := by decide +kernel
theorem dX6_tellThing_140 : decode cX6_tellThing 140 = .ok (.aload_n 0, 1) := by decide +kernel
theorem dX6_tellThing_141 : decode cX6_tellThing 141 = .ok (.getfield 9, 3) := by decide +kernel
theorem dX6_tellThing_144 : decode cX6_tellThing 144 = .ok (.iload_n 1, 1) := by decide +kernel
theorem dX6_tellThing_145 : decode cX6_tellThing 145 = .ok (.invokevirtual 51, 3) := by decide +kernel
theorem dX6_tellThing_148 : decode cX6_tellThing 148 = .ok (.ireturn, 1) := by decide +kernel
theorem dX6_tellThing_149 : decode cX6_tellThing 149 = .ok (.aload_n 0, 1) := by decide +kernel
theorem dX6_tellThing_150 : decode cX6_tellThing 150 = .ok (.getfield 9, 3) := by decide +kernel
theorem dX6_tellThing_153 : decode cX6_tellThing 153 = .ok (.iload_n 1, 1) := by decide +kernel
theorem dX6_tellThing_154 : decode cX6_tellThing 154 = .ok (.invokevirtual 54, 3) := by decide +kernel
theorem dX6_tellThing_157 : decode cX6_tellThing 157 = .ok (.ireturn, 1) := by decide +kernel
theorem dX6_tellThing_158 : decode cX6_tellThing 158 = .ok (.aload_n 0, 1) := by decide +kernel
theorem dX6_tellThing_159 : decode cX6_tellThing 159 = .ok (.getfield 9, 3) := by decide +kernel
theorem dX6_tellThing_162 : decode cX6_tellThing 162 = .ok (.iload_n 1, 1) := by decide +kernel
theorem dX6_tellThing_163 : decode cX6_tellThing 163 = .ok (.invokevirtual 57, 3) := by decide +kernel
theorem dX6_tellThing_166 : decode cX6_tellThing 166 = .ok (.ireturn, 1) := by decide +kernel
set_option maxRecDepth 20000 in
theorem ggX6_heldCount_X4_blockIn : GoodIn wsX6_heldCount wsX4_blockIn := goodIn_r _ [6, 7, 10, 11, 12, 13, 14, 15, 16, 17, 18, 19, 20] (by decide +kernel) (by decide +kernel)
set_option maxRecDepth 20000 in
theorem gX6_heldCount_X4_blockIn : GoodIn wsX6_heldCount (wsV RX6 60 RX4 yX4_blockIn wsX4_blockIn) := goodIn_app (goodIn_of _ (by decide +kernel)) ggX6_heldCount_X4_blockIn
theorem dX6_heldCount_0 : decode cX6_heldCount 0 = .ok (.iconst 0, 1) := by decide +kernel
theorem dX6_heldCount_1 : decode cX6_heldCount 1 = .ok (.istore_n 2, 1) := by decide +kernel
theorem dX6_heldCount_2 : decode cX6_heldCount 2 = .ok (.iconst 0, 1) := by decide +kernel
theorem dX6_heldCount_3 : decode cX6_heldCount 3 = .ok (.istore_n 3, 1) := by decide +kernel
theorem dX6_heldCount_4 : decode cX6_heldCount 4 = .ok (.iload_n 3, 1) := by decide +kernel
theorem dX6_heldCount_5 : decode cX6_heldCount 5 = .ok (.bipush 12, 2) := by decide +kernel
theorem dX6_heldCount_7 : decode cX6_heldCount 7 = .ok (.if_icmp .ge 25, 3) := by decide +kernel
theorem dX6_heldCount_10 : decode cX6_heldCount 10 = .ok (.aload_n 0, 1) := by decide +kernel
theorem dX6_heldCount_11 : decode cX6_heldCount 11 = .ok (.getfield 9, 3) := by decide +kernel
theorem dX6_heldCount_14 : decode cX6_heldCount 14 = .ok (.iload_n 1, 1) := by decide +kernel
theorem dX6_heldCount_15 : decode cX6_heldCount 15 = .ok (.iload_n 3, 1) := by decide +kernel
theorem dX6_heldCount_16 : decode cX6_heldCount 16 = .ok (.invokevirtual 60, 3) := by decide +kernel
theorem dX6_heldCount_19 : decode cX6_heldCount 19 = .ok (.iconst (-1), 1) := by decide +kernel
theorem dX6_heldCount_20 : decode cX6_heldCount 20 = .ok (.if_icmp .eq 6, 3) := by decide +kernel
theorem dX6_heldCount_23 : decode cX6_heldCount 23 = .ok (.iinc 2 1, 3) := by decide +kernel
theorem dX6_heldCount_26 : decode cX6_heldCount 26 = .ok (.iinc 3 1, 3) := by decide +kernel
theorem dX6_heldCount_29 : decode cX6_heldCount 29 = .ok (.goto (-25), 3) := by decide +kernel
theorem dX6_heldCount_32 : decode cX6_heldCount 32 = .ok (.iload_n 2, 1) := by decide +kernel
theorem dX6_heldCount_33 : decode cX6_heldCount 33 = .ok (.ireturn, 1) := by decide +kernel
set_option maxRecDepth 20000 in
theorem ggX6_tellSlot_X4_refusalAsHolder : GoodIn wsX6_tellSlot wsX4_refusalAsHolder := goodIn_r _ [6, 7, 8, 9, 5, 10, 11, 12, 13, 14, 15, 23, 24, 25, 26, 27, 28, 29, 30, 31, 32, 33] (by decide +kernel) (by decide +kernel)
set_option maxRecDepth 20000 in
theorem gX6_tellSlot_X4_refusalAsHolder : GoodIn wsX6_tellSlot (wsV RX6 64 RX4 yX4_refusalAsHolder wsX4_refusalAsHolder) := goodIn_app (goodIn_of _ (by decide +kernel)) ggX6_tellSlot_X4_refusalAsHolder
set_option maxRecDepth 20000 in
theorem ggX6_tellSlot_X4_blockIn : GoodIn wsX6_tellSlot wsX4_blockIn := goodIn_r _ [19, 20, 23, 24, 25, 26, 27, 28, 29, 30, 31, 32, 33] (by decide +kernel) (by decide +kernel)
set_option maxRecDepth 20000 in
theorem gX6_tellSlot_X4_blockIn : GoodIn wsX6_tellSlot (wsV RX6 60 RX4 yX4_blockIn wsX4_blockIn) := goodIn_app (goodIn_of _ (by decide +kernel)) ggX6_tellSlot_X4_blockIn
theorem dX6_tellSlot_0 : decode cX6_tellSlot 0 = .ok (.iload_n 2, 1) := by decide +kernel
theorem dX6_tellSlot_1 : decode cX6_tellSlot 1 = .ok (.ifCond .lt 9, 3) := by decide +kernel
theorem dX6_tellSlot_4 : decode cX6_tellSlot 4 = .ok (.iload_n 2, 1) := by decide +kernel
theorem dX6_tellSlot_5 : decode cX6_tellSlot 5 = .ok (.bipush 12, 2) := by decide +kernel
theorem dX6_tellSlot_7 : decode cX6_tellSlot 7 = .ok (.if_icmp .lt 6, 3) := by decide +kernel
theorem dX6_tellSlot_10 : decode cX6_tellSlot 10 = .ok (.bipush (-2), 2) := by decide +kernel
theorem dX6_tellSlot_12 : decode cX6_tellSlot 12 = .ok (.ireturn, 1) := by decide +kernel
theorem dX6_tellSlot_13 : decode cX6_tellSlot 13 = .ok (.aload_n 0, 1) := by decide +kernel
theorem dX6_tellSlot_14 : decode cX6_tellSlot 14 = .ok (.getfield 9, 3) := by decide +kernel
theorem dX6_tellSlot_17 : decode cX6_tellSlot 17 = .ok (.iload_n 1, 1) := by decide +kernel
theorem dX6_tellSlot_18 : decode cX6_tellSlot 18 = .ok (.invokevirtual 64, 3) := by decide +kernel
theorem dX6_tellSlot_21 : decode cX6_tellSlot 21 = .ok (.istore_n 3, 1) := by decide +kernel
theorem dX6_tellSlot_22 : decode cX6_tellSlot 22 = .ok (.iload_n 3, 1) := by decide +kernel
theorem dX6_tellSlot_23 : decode cX6_tellSlot 23 = .ok (.ifCond .eq 7, 3) := by decide +kernel
theorem dX6_tellSlot_26 : decode cX6_tellSlot 26 = .ok (.iload_n 3, 1) := by decide +kernel
theorem dX6_tellSlot_27 : decode cX6_tellSlot 27 = .ok (.goto 12, 3) := by decide +kernel
theorem dX6_tellSlot_30 : decode cX6_tellSlot 30 = .ok (.aload_n 0, 1) := by decide +kernel
theorem dX6_tellSlot_31 : decode cX6_tellSlot 31 = .ok (.getfield 9, 3) := by decide +kernel
theorem dX6_tellSlot_34 : decode cX6_tellSlot 34 = .ok (.iload_n 1, 1) := by decide +kernel
theorem dX6_tellSlot_35 : decode cX6_tellSlot 35 = .ok (.iload_n 2, 1) := by decide +kernel
theorem dX6_tellSlot_36 : decode cX6_tellSlot 36 = .ok (.invokevirtual 60, 3) := by decide +kernel
theorem dX6_tellSlot_39 : decode cX6_tellSlot 39 = .ok (.ireturn, 1) := by decide +kernel
set_option maxRecDepth 20000 in
theorem ggX6_tellBlock_X4_sizeOf : GoodIn wsX6_tellBlock wsX4_sizeOf := goodIn_r _ [7, 8, 39, 40, 41, 42, 43, 44, 45, 46, 47, 48, 49] (by decide +kernel) (by decide +kernel)
set_option maxRecDepth 20000 in
theorem gX6_tellBlock_X4_sizeOf : GoodIn wsX6_tellBlock (wsV RX6 67 RX4 yX4_sizeOf wsX4_sizeOf) := goodIn_app (goodIn_of _ (by decide +kernel)) ggX6_tellBlock_X4_sizeOf
set_option maxRecDepth 20000 in
theorem ggX6_tellBlock_X4_birthOf : GoodIn wsX6_tellBlock wsX4_birthOf := goodIn_r _ [12, 13, 39, 40, 41, 42, 43, 44, 45, 46, 47, 48, 49] (by decide +kernel) (by decide +kernel)
set_option maxRecDepth 20000 in
theorem gX6_tellBlock_X4_birthOf : GoodIn wsX6_tellBlock (wsV RX6 70 RX4 yX4_birthOf wsX4_birthOf) := goodIn_app (goodIn_of _ (by decide +kernel)) ggX6_tellBlock_X4_birthOf
set_option maxRecDepth 20000 in
theorem ggX6_tellBlock_X2_look : GoodIn wsX6_tellBlock wsX2_look := goodIn_r _ [18, 19, 20, 21, 22, 23, 6, 24, 25, 50, 51, 39, 40, 41, 42, 43, 44, 45, 46, 47, 48, 49] (by decide +kernel) (by decide +kernel)
set_option maxRecDepth 20000 in
theorem gX6_tellBlock_X2_look : GoodIn wsX6_tellBlock (wsV RX6 73 RX2 yX2_look wsX2_look) := goodIn_app (goodIn_of _ (by decide +kernel)) ggX6_tellBlock_X2_look
set_option maxRecDepth 20000 in
theorem ggX6_tellBlock_X2_setOf : GoodIn wsX6_tellBlock wsX2_setOf := goodIn_r _ [29, 19, 50, 51] (by decide +kernel) (by decide +kernel)
set_option maxRecDepth 20000 in
theorem gX6_tellBlock_X2_setOf : GoodIn wsX6_tellBlock (wsV RX6 76 RX2 yX2_setOf wsX2_setOf) := goodIn_app (goodIn_of _ (by decide +kernel)) ggX6_tellBlock_X2_setOf
set_option maxRecDepth 20000 in
theorem ggX6_tellBlock_J6_bitCount_0f7a4 : GoodIn wsX6_tellBlock wsJ6_bitCount_0f7a4 := goodIn_r _ [33, 34, 35, 36] (by decide +kernel) (by decide +kernel)
set_option maxRecDepth 20000 in
theorem gX6_tellBlock_J6_bitCount_0f7a4 : GoodIn wsX6_tellBlock (va_wsS RX6 79 yJ6_bitCount_0f7a4 wsJ6_bitCount_0f7a4) := goodIn_app (goodIn_of _ (by decide +kernel)) ggX6_tellBlock_J6_bitCount_0f7a4
theorem dX6_tellBlock_0 : decode cX6_tellBlock 0 = .ok (.iload_n 2, 1) := by decide +kernel
theorem dX6_tellBlock_1 : decode cX6_tellBlock 1 = .ok (.ifCond .lt 8, 3) := by decide +kernel
theorem dX6_tellBlock_4 : decode cX6_tellBlock 4 = .ok (.iload_n 2, 1) := by decide +kernel
theorem dX6_tellBlock_5 : decode cX6_tellBlock 5 = .ok (.iconst 2, 1) := by decide +kernel
theorem dX6_tellBlock_6 : decode cX6_tellBlock 6 = .ok (.if_icmp .le 6, 3) := by decide +kernel
theorem dX6_tellBlock_9 : decode cX6_tellBlock 9 = .ok (.bipush (-2), 2) := by decide +kernel
theorem dX6_tellBlock_11 : decode cX6_tellBlock 11 = .ok (.ireturn, 1) := by decide +kernel
theorem dX6_tellBlock_12 : decode cX6_tellBlock 12 = .ok (.iload_n 1, 1) := by decide +kernel
theorem dX6_tellBlock_13 : decode cX6_tellBlock 13 = .ok (.ifCond .lt 9, 3) := by decide +kernel
theorem dX6_tellBlock_16 : decode cX6_tellBlock 16 = .ok (.iload_n 1, 1) := by decide +kernel
theorem dX6_tellBlock_17 : decode cX6_tellBlock 17 = .ok (.bipush 96, 2) := by decide +kernel
theorem dX6_tellBlock_19 : decode cX6_tellBlock 19 = .ok (.if_icmp .lt 6, 3) := by decide +kernel
theorem dX6_tellBlock_22 : decode cX6_tellBlock 22 = .ok (.bipush (-12), 2) := by decide +kernel
theorem dX6_tellBlock_24 : decode cX6_tellBlock 24 = .ok (.ireturn, 1) := by decide +kernel
theorem dX6_tellBlock_25 : decode cX6_tellBlock 25 = .ok (.aload_n 0, 1) := by decide +kernel
theorem dX6_tellBlock_26 : decode cX6_tellBlock 26 = .ok (.getfield 9, 3) := by decide +kernel
theorem dX6_tellBlock_29 : decode cX6_tellBlock 29 = .ok (.iload_n 1, 1) := by decide +kernel
theorem dX6_tellBlock_30 : decode cX6_tellBlock 30 = .ok (.invokevirtual 67, 3) := by decide +kernel
theorem dX6_tellBlock_33 : decode cX6_tellBlock 33 = .ok (.ifCond .ne 6, 3) := by decide +kernel
theorem dX6_tellBlock_36 : decode cX6_tellBlock 36 = .ok (.bipush (-11), 2) := by decide +kernel
theorem dX6_tellBlock_38 : decode cX6_tellBlock 38 = .ok (.ireturn, 1) := by decide +kernel
theorem dX6_tellBlock_39 : decode cX6_tellBlock 39 = .ok (.iload_n 2, 1) := by decide +kernel
theorem dX6_tellBlock_40 : decode cX6_tellBlock 40 = .ok (.lookupswitch 46 #[(0, 28), (1, 37)], 28) := by decide +kernel
theorem dX6_tellBlock_68 : decode cX6_tellBlock 68 = .ok (.aload_n 0, 1) := by decide +kernel
theorem dX6_tellBlock_69 : decode cX6_tellBlock 69 = .ok (.getfield 9, 3) := by decide +kernel
theorem dX6_tellBlock_72 : decode cX6_tellBlock 72 = .ok (.iload_n 1, 1) := by decide +kernel
theorem dX6_tellBlock_73 : decode cX6_tellBlock 73 = .ok (.invokevirtual 67, 3) := by decide +kernel
theorem dX6_tellBlock_76 : decode cX6_tellBlock 76 = .ok (.ireturn, 1) := by decide +kernel
theorem dX6_tellBlock_77 : decode cX6_tellBlock 77 = .ok (.aload_n 0, 1) := by decide +kernel
theorem dX6_tellBlock_78 : decode cX6_tellBlock 78 = .ok (.getfield 9, 3) := by decide +kernel
theorem dX6_tellBlock_81 : decode cX6_tellBlock 81 = .ok (.iload_n 1, 1) := by decide +kernel
theorem dX6_tellBlock_82 : decode cX6_tellBlock 82 = .ok (.invokevirtual 70, 3) := by decide +kernel
theorem dX6_tellBlock_85 : decode cX6_tellBlock 85 = .ok (.ireturn, 1) := by decide +kernel
theorem dX6_tellBlock_86 : decode cX6_tellBlock 86 = .ok (.aload_n 0, 1) := by decide +kernel
theorem dX6_tellBlock_87 : decode cX6_tellBlock 87 = .ok (.getfield 20, 3) := by decide +kernel
theorem dX6_tellBlock_90 : decode cX6_tellBlock 90 = .ok (.invokevirtual 73, 3) := by decide +kernel
theorem dX6_tellBlock_93 : decode cX6_tellBlock 93 = .ok (.aload_n 0, 1) := by decide +kernel
theorem dX6_tellBlock_94 : decode cX6_tellBlock 94 = .ok (.getfield 20, 3) := by decide +kernel
theorem dX6_tellBlock_97 : decode cX6_tellBlock 97 = .ok (.iload_n 1, 1) := by decide +kernel
theorem dX6_tellBlock_98 : decode cX6_tellBlock 98 = .ok (.invokevirtual 76, 3) := by decide +kernel
theorem dX6_tellBlock_101 : decode cX6_tellBlock 101 = .ok (.invokestatic 79, 3) := by decide +kernel
theorem dX6_tellBlock_104 : decode cX6_tellBlock 104 = .ok (.ireturn, 1) := by decide +kernel
set_option maxRecDepth 20000 in
theorem ggX6_tellTaken_X4_refusalAs : GoodIn wsX6_tellTaken wsX4_refusalAs := goodIn_r _ [6, 7, 8, 9, 5, 10, 11, 12, 13, 14, 15, 23, 24, 25, 26, 27, 28, 29, 30, 31, 32, 33] (by decide +kernel) (by decide +kernel)
set_option maxRecDepth 20000 in
theorem gX6_tellTaken_X4_refusalAs : GoodIn wsX6_tellTaken (wsV RX6 84 RX4 yX4_refusalAs wsX4_refusalAs) := goodIn_app (goodIn_of _ (by decide +kernel)) ggX6_tellTaken_X4_refusalAs
set_option maxRecDepth 20000 in
theorem ggX6_tellTaken_X4_madeOf : GoodIn wsX6_tellTaken wsX4_madeOf := goodIn_r _ [19, 20, 23, 24, 25, 26, 27, 28, 29, 30, 31, 32, 33] (by decide +kernel) (by decide +kernel)
set_option maxRecDepth 20000 in
theorem gX6_tellTaken_X4_madeOf : GoodIn wsX6_tellTaken (wsV RX6 33 RX4 yX4_madeOf wsX4_madeOf) := goodIn_app (goodIn_of _ (by decide +kernel)) ggX6_tellTaken_X4_madeOf
theorem dX6_tellTaken_0 : decode cX6_tellTaken 0 = .ok (.iload_n 2, 1) := by decide +kernel
theorem dX6_tellTaken_1 : decode cX6_tellTaken 1 = .ok (.ifCond .lt 8, 3) := by decide +kernel
theorem dX6_tellTaken_4 : decode cX6_tellTaken 4 = .ok (.iload_n 2, 1) := by decide +kernel
theorem dX6_tellTaken_5 : decode cX6_tellTaken 5 = .ok (.iconst 4, 1) := by decide +kernel
theorem dX6_tellTaken_6 : decode cX6_tellTaken 6 = .ok (.if_icmp .le 6, 3) := by decide +kernel
theorem dX6_tellTaken_9 : decode cX6_tellTaken 9 = .ok (.bipush (-2), 2) := by decide +kernel
theorem dX6_tellTaken_11 : decode cX6_tellTaken 11 = .ok (.ireturn, 1) := by decide +kernel
theorem dX6_tellTaken_12 : decode cX6_tellTaken 12 = .ok (.aload_n 0, 1) := by decide +kernel
theorem dX6_tellTaken_13 : decode cX6_tellTaken 13 = .ok (.getfield 9, 3) := by decide +kernel
theorem dX6_tellTaken_16 : decode cX6_tellTaken 16 = .ok (.iload_n 1, 1) := by decide +kernel
theorem dX6_tellTaken_17 : decode cX6_tellTaken 17 = .ok (.iload_n 2, 1) := by decide +kernel
theorem dX6_tellTaken_18 : decode cX6_tellTaken 18 = .ok (.invokevirtual 84, 3) := by decide +kernel
theorem dX6_tellTaken_21 : decode cX6_tellTaken 21 = .ok (.istore_n 3, 1) := by decide +kernel
theorem dX6_tellTaken_22 : decode cX6_tellTaken 22 = .ok (.iload_n 3, 1) := by decide +kernel
theorem dX6_tellTaken_23 : decode cX6_tellTaken 23 = .ok (.ifCond .eq 7, 3) := by decide +kernel
theorem dX6_tellTaken_26 : decode cX6_tellTaken 26 = .ok (.iload_n 3, 1) := by decide +kernel
theorem dX6_tellTaken_27 : decode cX6_tellTaken 27 = .ok (.goto 11, 3) := by decide +kernel
theorem dX6_tellTaken_30 : decode cX6_tellTaken 30 = .ok (.aload_n 0, 1) := by decide +kernel
theorem dX6_tellTaken_31 : decode cX6_tellTaken 31 = .ok (.getfield 9, 3) := by decide +kernel
theorem dX6_tellTaken_34 : decode cX6_tellTaken 34 = .ok (.iload_n 1, 1) := by decide +kernel
theorem dX6_tellTaken_35 : decode cX6_tellTaken 35 = .ok (.invokevirtual 33, 3) := by decide +kernel
theorem dX6_tellTaken_38 : decode cX6_tellTaken 38 = .ok (.ireturn, 1) := by decide +kernel
set_option maxRecDepth 20000 in
theorem ggX6_tellDead_X4_refusalAsHolder : GoodIn wsX6_tellDead wsX4_refusalAsHolder := goodIn_r _ [6, 7, 8, 9, 5, 10, 11, 12, 13, 14, 15, 46, 47, 48, 49, 50, 51, 52, 53, 54, 55, 56] (by decide +kernel) (by decide +kernel)
set_option maxRecDepth 20000 in
theorem gX6_tellDead_X4_refusalAsHolder : GoodIn wsX6_tellDead (wsV RX6 64 RX4 yX4_refusalAsHolder wsX4_refusalAsHolder) := goodIn_app (goodIn_of _ (by decide +kernel)) ggX6_tellDead_X4_refusalAsHolder
set_option maxRecDepth 20000 in
theorem ggX6_tellDead_X6_deadIn : GoodIn wsX6_tellDead wsX6_deadIn := goodIn_r _ [20, 1, 21, 22, 23, 5, 24, 25, 26, 27, 28, 29, 30, 44, 45, 46, 47, 48, 49, 50, 51, 52, 53, 54, 55, 56] (by decide +kernel) (by decide +kernel)
set_option maxRecDepth 20000 in
theorem gX6_tellDead_X6_deadIn : GoodIn wsX6_tellDead (wsV RX6 87 RX6 yX6_deadIn wsX6_deadIn) := goodIn_app (goodIn_of _ (by decide +kernel)) ggX6_tellDead_X6_deadIn
set_option maxRecDepth 20000 in
theorem ggX6_tellDead_X6_isLater : GoodIn wsX6_tellDead wsX6_isLater := goodIn_r _ [34, 1, 35, 36, 37, 5, 38, 39, 40, 41, 42, 43, 44, 45, 46, 47, 48, 49, 50, 51, 52, 53, 54, 55, 56] (by decide +kernel) (by decide +kernel)
set_option maxRecDepth 20000 in
theorem gX6_tellDead_X6_isLater : GoodIn wsX6_tellDead (wsV RX6 90 RX6 yX6_isLater wsX6_isLater) := goodIn_app (goodIn_of _ (by decide +kernel)) ggX6_tellDead_X6_isLater
theorem dX6_tellDead_0 : decode cX6_tellDead 0 = .ok (.iload_n 2, 1) := by decide +kernel
theorem dX6_tellDead_1 : decode cX6_tellDead 1 = .ok (.ifCond .lt 8, 3) := by decide +kernel
theorem dX6_tellDead_4 : decode cX6_tellDead 4 = .ok (.iload_n 2, 1) := by decide +kernel
theorem dX6_tellDead_5 : decode cX6_tellDead 5 = .ok (.iconst 2, 1) := by decide +kernel
theorem dX6_tellDead_6 : decode cX6_tellDead 6 = .ok (.if_icmp .le 6, 3) := by decide +kernel
theorem dX6_tellDead_9 : decode cX6_tellDead 9 = .ok (.bipush (-2), 2) := by decide +kernel
theorem dX6_tellDead_11 : decode cX6_tellDead 11 = .ok (.ireturn, 1) := by decide +kernel
theorem dX6_tellDead_12 : decode cX6_tellDead 12 = .ok (.aload_n 0, 1) := by decide +kernel
theorem dX6_tellDead_13 : decode cX6_tellDead 13 = .ok (.getfield 9, 3) := by decide +kernel
theorem dX6_tellDead_16 : decode cX6_tellDead 16 = .ok (.iload_n 1, 1) := by decide +kernel
theorem dX6_tellDead_17 : decode cX6_tellDead 17 = .ok (.invokevirtual 64, 3) := by decide +kernel
theorem dX6_tellDead_20 : decode cX6_tellDead 20 = .ok (.istore_n 3, 1) := by decide +kernel
theorem dX6_tellDead_21 : decode cX6_tellDead 21 = .ok (.iload_n 3, 1) := by decide +kernel
theorem dX6_tellDead_22 : decode cX6_tellDead 22 = .ok (.ifCond .eq 5, 3) := by decide +kernel
theorem dX6_tellDead_25 : decode cX6_tellDead 25 = .ok (.iload_n 3, 1) := by decide +kernel
theorem dX6_tellDead_26 : decode cX6_tellDead 26 = .ok (.ireturn, 1) := by decide +kernel
theorem dX6_tellDead_27 : decode cX6_tellDead 27 = .ok (.iconst 0, 1) := by decide +kernel
theorem dX6_tellDead_28 : decode cX6_tellDead 28 = .ok (.istore 4, 2) := by decide +kernel
theorem dX6_tellDead_30 : decode cX6_tellDead 30 = .ok (.iconst (-1), 1) := by decide +kernel
theorem dX6_tellDead_31 : decode cX6_tellDead 31 = .ok (.istore 5, 2) := by decide +kernel
theorem dX6_tellDead_33 : decode cX6_tellDead 33 = .ok (.iconst (-1), 1) := by decide +kernel
theorem dX6_tellDead_34 : decode cX6_tellDead 34 = .ok (.istore 6, 2) := by decide +kernel
theorem dX6_tellDead_36 : decode cX6_tellDead 36 = .ok (.iconst 0, 1) := by decide +kernel
theorem dX6_tellDead_37 : decode cX6_tellDead 37 = .ok (.istore 7, 2) := by decide +kernel
theorem dX6_tellDead_39 : decode cX6_tellDead 39 = .ok (.iload 7, 2) := by decide +kernel
theorem dX6_tellDead_41 : decode cX6_tellDead 41 = .ok (.bipush 12, 2) := by decide +kernel
theorem dX6_tellDead_43 : decode cX6_tellDead 43 = .ok (.if_icmp .ge 79, 3) := by decide +kernel
theorem dX6_tellDead_46 : decode cX6_tellDead 46 = .ok (.aload_n 0, 1) := by decide +kernel
theorem dX6_tellDead_47 : decode cX6_tellDead 47 = .ok (.iload_n 1, 1) := by decide +kernel
theorem dX6_tellDead_48 : decode cX6_tellDead 48 = .ok (.iload 7, 2) := by decide +kernel
theorem dX6_tellDead_50 : decode cX6_tellDead 50 = .ok (.invokevirtual 87, 3) := by decide +kernel
theorem dX6_tellDead_53 : decode cX6_tellDead 53 = .ok (.istore 8, 2) := by decide +kernel
theorem dX6_tellDead_55 : decode cX6_tellDead 55 = .ok (.iload 8, 2) := by decide +kernel
theorem dX6_tellDead_57 : decode cX6_tellDead 57 = .ok (.iconst (-1), 1) := by decide +kernel
theorem dX6_tellDead_58 : decode cX6_tellDead 58 = .ok (.if_icmp .eq 58, 3) := by decide +kernel
theorem dX6_tellDead_61 : decode cX6_tellDead 61 = .ok (.iinc 4 1, 3) := by decide +kernel
theorem dX6_tellDead_64 : decode cX6_tellDead 64 = .ok (.iload 5, 2) := by decide +kernel
theorem dX6_tellDead_66 : decode cX6_tellDead 66 = .ok (.iconst (-1), 1) := by decide +kernel
theorem dX6_tellDead_67 : decode cX6_tellDead 67 = .ok (.if_icmp .eq 14, 3) := by decide +kernel
theorem dX6_tellDead_70 : decode cX6_tellDead 70 = .ok (.aload_n 0, 1) := by decide +kernel
theorem dX6_tellDead_71 : decode cX6_tellDead 71 = .ok (.iload 8, 2) := by decide +kernel
theorem dX6_tellDead_73 : decode cX6_tellDead 73 = .ok (.iload 5, 2) := by decide +kernel
theorem dX6_tellDead_75 : decode cX6_tellDead 75 = .ok (.invokevirtual 90, 3) := by decide +kernel
theorem dX6_tellDead_78 : decode cX6_tellDead 78 = .ok (.ifCond .eq 8, 3) := by decide +kernel
theorem dX6_tellDead_81 : decode cX6_tellDead 81 = .ok (.iload 8, 2) := by decide +kernel
theorem dX6_tellDead_83 : decode cX6_tellDead 83 = .ok (.goto 5, 3) := by decide +kernel
theorem dX6_tellDead_86 : decode cX6_tellDead 86 = .ok (.iload 5, 2) := by decide +kernel
theorem dX6_tellDead_88 : decode cX6_tellDead 88 = .ok (.istore 5, 2) := by decide +kernel
theorem dX6_tellDead_90 : decode cX6_tellDead 90 = .ok (.iload 6, 2) := by decide +kernel
theorem dX6_tellDead_92 : decode cX6_tellDead 92 = .ok (.iconst (-1), 1) := by decide +kernel
theorem dX6_tellDead_93 : decode cX6_tellDead 93 = .ok (.if_icmp .eq 14, 3) := by decide +kernel
theorem dX6_tellDead_96 : decode cX6_tellDead 96 = .ok (.aload_n 0, 1) := by decide +kernel
theorem dX6_tellDead_97 : decode cX6_tellDead 97 = .ok (.iload 6, 2) := by decide +kernel
theorem dX6_tellDead_99 : decode cX6_tellDead 99 = .ok (.iload 8, 2) := by decide +kernel
theorem dX6_tellDead_101 : decode cX6_tellDead 101 = .ok (.invokevirtual 90, 3) := by decide +kernel
theorem dX6_tellDead_104 : decode cX6_tellDead 104 = .ok (.ifCond .eq 8, 3) := by decide +kernel
theorem dX6_tellDead_107 : decode cX6_tellDead 107 = .ok (.iload 8, 2) := by decide +kernel
theorem dX6_tellDead_109 : decode cX6_tellDead 109 = .ok (.goto 5, 3) := by decide +kernel
theorem dX6_tellDead_112 : decode cX6_tellDead 112 = .ok (.iload 6, 2) := by decide +kernel
theorem dX6_tellDead_114 : decode cX6_tellDead 114 = .ok (.istore 6, 2) := by decide +kernel
theorem dX6_tellDead_116 : decode cX6_tellDead 116 = .ok (.iinc 7 1, 3) := by decide +kernel
theorem dX6_tellDead_119 : decode cX6_tellDead 119 = .ok (.goto (-80), 3) := by decide +kernel
theorem dX6_tellDead_122 : decode cX6_tellDead 122 = .ok (.iload_n 2, 1) := by decide +kernel
theorem dX6_tellDead_123 : decode cX6_tellDead 123 = .ok (.ifCond .ne 6, 3) := by decide +kernel
theorem dX6_tellDead_126 : decode cX6_tellDead 126 = .ok (.iload 4, 2) := by decide +kernel
theorem dX6_tellDead_128 : decode cX6_tellDead 128 = .ok (.ireturn, 1) := by decide +kernel
theorem dX6_tellDead_129 : decode cX6_tellDead 129 = .ok (.iload_n 2, 1) := by decide +kernel
theorem dX6_tellDead_130 : decode cX6_tellDead 130 = .ok (.iconst 1, 1) := by decide +kernel
theorem dX6_tellDead_131 : decode cX6_tellDead 131 = .ok (.if_icmp .ne 8, 3) := by decide +kernel
theorem dX6_tellDead_134 : decode cX6_tellDead 134 = .ok (.iload 5, 2) := by decide +kernel
theorem dX6_tellDead_136 : decode cX6_tellDead 136 = .ok (.goto 5, 3) := by decide +kernel
theorem dX6_tellDead_139 : decode cX6_tellDead 139 = .ok (.iload 6, 2) := by decide +kernel
theorem dX6_tellDead_141 : decode cX6_tellDead 141 = .ok (.ireturn, 1) := by decide +kernel
set_option maxRecDepth 20000 in
theorem ggX6_deadIn_X4_prevOf : GoodIn wsX6_deadIn wsX4_prevOf := goodIn_r _ [6, 7, 15, 16, 17, 18, 19, 20, 21, 22, 23, 24, 25] (by decide +kernel) (by decide +kernel)
set_option maxRecDepth 20000 in
theorem gX6_deadIn_X4_prevOf : GoodIn wsX6_deadIn (wsV RX6 36 RX4 yX4_prevOf wsX4_prevOf) := goodIn_app (goodIn_of _ (by decide +kernel)) ggX6_deadIn_X4_prevOf
set_option maxRecDepth 20000 in
theorem ggX6_deadIn_X4_blockIn : GoodIn wsX6_deadIn wsX4_blockIn := goodIn_r _ [11, 12, 15, 16, 17, 18, 19, 20, 21, 22, 23, 24, 25] (by decide +kernel) (by decide +kernel)
set_option maxRecDepth 20000 in
theorem gX6_deadIn_X4_blockIn : GoodIn wsX6_deadIn (wsV RX6 60 RX4 yX4_blockIn wsX4_blockIn) := goodIn_app (goodIn_of _ (by decide +kernel)) ggX6_deadIn_X4_blockIn
theorem dX6_deadIn_0 : decode cX6_deadIn 0 = .ok (.aload_n 0, 1) := by decide +kernel
theorem dX6_deadIn_1 : decode cX6_deadIn 1 = .ok (.getfield 9, 3) := by decide +kernel
theorem dX6_deadIn_4 : decode cX6_deadIn 4 = .ok (.aload_n 0, 1) := by decide +kernel
theorem dX6_deadIn_5 : decode cX6_deadIn 5 = .ok (.getfield 9, 3) := by decide +kernel
theorem dX6_deadIn_8 : decode cX6_deadIn 8 = .ok (.iload_n 1, 1) := by decide +kernel
theorem dX6_deadIn_9 : decode cX6_deadIn 9 = .ok (.invokevirtual 36, 3) := by decide +kernel
theorem dX6_deadIn_12 : decode cX6_deadIn 12 = .ok (.iload_n 2, 1) := by decide +kernel
theorem dX6_deadIn_13 : decode cX6_deadIn 13 = .ok (.invokevirtual 60, 3) := by decide +kernel
theorem dX6_deadIn_16 : decode cX6_deadIn 16 = .ok (.istore_n 3, 1) := by decide +kernel
theorem dX6_deadIn_17 : decode cX6_deadIn 17 = .ok (.iload_n 3, 1) := by decide +kernel
theorem dX6_deadIn_18 : decode cX6_deadIn 18 = .ok (.aload_n 0, 1) := by decide +kernel
theorem dX6_deadIn_19 : decode cX6_deadIn 19 = .ok (.getfield 9, 3) := by decide +kernel
theorem dX6_deadIn_22 : decode cX6_deadIn 22 = .ok (.iload_n 1, 1) := by decide +kernel
theorem dX6_deadIn_23 : decode cX6_deadIn 23 = .ok (.iload_n 2, 1) := by decide +kernel
theorem dX6_deadIn_24 : decode cX6_deadIn 24 = .ok (.invokevirtual 60, 3) := by decide +kernel
theorem dX6_deadIn_27 : decode cX6_deadIn 27 = .ok (.if_icmp .eq 7, 3) := by decide +kernel
theorem dX6_deadIn_30 : decode cX6_deadIn 30 = .ok (.iload_n 3, 1) := by decide +kernel
theorem dX6_deadIn_31 : decode cX6_deadIn 31 = .ok (.goto 4, 3) := by decide +kernel
theorem dX6_deadIn_34 : decode cX6_deadIn 34 = .ok (.iconst (-1), 1) := by decide +kernel
theorem dX6_deadIn_35 : decode cX6_deadIn 35 = .ok (.ireturn, 1) := by decide +kernel
set_option maxRecDepth 20000 in
theorem ggX6_isLater_X4_birthOf : GoodIn wsX6_isLater wsX4_birthOf := goodIn_r _ [6, 7, 14, 15, 16, 17, 18, 19, 20, 21, 22, 23, 24] (by decide +kernel) (by decide +kernel)
set_option maxRecDepth 20000 in
theorem gX6_isLater_X4_birthOf : GoodIn wsX6_isLater (wsV RX6 70 RX4 yX4_birthOf wsX4_birthOf) := goodIn_app (goodIn_of _ (by decide +kernel)) ggX6_isLater_X4_birthOf
set_option maxRecDepth 20000 in
theorem ggX6_isLater_J6_compare_7cf53 : GoodIn wsX6_isLater wsJ6_compare_7cf53 := goodIn_r _ [11] (by decide +kernel) (by decide +kernel)
set_option maxRecDepth 20000 in
theorem gX6_isLater_J6_compare_7cf53 : GoodIn wsX6_isLater (va_wsS RX6 94 yJ6_compare_7cf53 wsJ6_compare_7cf53) := goodIn_app (goodIn_of _ (by decide +kernel)) ggX6_isLater_J6_compare_7cf53
theorem dX6_isLater_0 : decode cX6_isLater 0 = .ok (.aload_n 0, 1) := by decide +kernel
theorem dX6_isLater_1 : decode cX6_isLater 1 = .ok (.getfield 9, 3) := by decide +kernel
theorem dX6_isLater_4 : decode cX6_isLater 4 = .ok (.iload_n 1, 1) := by decide +kernel
theorem dX6_isLater_5 : decode cX6_isLater 5 = .ok (.invokevirtual 70, 3) := by decide +kernel
theorem dX6_isLater_8 : decode cX6_isLater 8 = .ok (.aload_n 0, 1) := by decide +kernel
theorem dX6_isLater_9 : decode cX6_isLater 9 = .ok (.getfield 9, 3) := by decide +kernel
theorem dX6_isLater_12 : decode cX6_isLater 12 = .ok (.iload_n 2, 1) := by decide +kernel
theorem dX6_isLater_13 : decode cX6_isLater 13 = .ok (.invokevirtual 70, 3) := by decide +kernel
theorem dX6_isLater_16 : decode cX6_isLater 16 = .ok (.invokestatic 94, 3) := by decide +kernel
theorem dX6_isLater_19 : decode cX6_isLater 19 = .ok (.istore_n 3, 1) := by decide +kernel
theorem dX6_isLater_20 : decode cX6_isLater 20 = .ok (.iload_n 3, 1) := by decide +kernel
theorem dX6_isLater_21 : decode cX6_isLater 21 = .ok (.ifCond .eq 15, 3) := by decide +kernel
theorem dX6_isLater_24 : decode cX6_isLater 24 = .ok (.iload_n 3, 1) := by decide +kernel
theorem dX6_isLater_25 : decode cX6_isLater 25 = .ok (.ifCond .le 7, 3) := by decide +kernel
theorem dX6_isLater_28 : decode cX6_isLater 28 = .ok (.iconst 1, 1) := by decide +kernel
theorem dX6_isLater_29 : decode cX6_isLater 29 = .ok (.goto 17, 3) := by decide +kernel
theorem dX6_isLater_32 : decode cX6_isLater 32 = .ok (.iconst 0, 1) := by decide +kernel
theorem dX6_isLater_33 : decode cX6_isLater 33 = .ok (.goto 13, 3) := by decide +kernel
theorem dX6_isLater_36 : decode cX6_isLater 36 = .ok (.iload_n 1, 1) := by decide +kernel
theorem dX6_isLater_37 : decode cX6_isLater 37 = .ok (.iload_n 2, 1) := by decide +kernel
theorem dX6_isLater_38 : decode cX6_isLater 38 = .ok (.if_icmp .ge 7, 3) := by decide +kernel
theorem dX6_isLater_41 : decode cX6_isLater 41 = .ok (.iconst 1, 1) := by decide +kernel
theorem dX6_isLater_42 : decode cX6_isLater 42 = .ok (.goto 4, 3) := by decide +kernel
theorem dX6_isLater_45 : decode cX6_isLater 45 = .ok (.iconst 0, 1) := by decide +kernel
theorem dX6_isLater_46 : decode cX6_isLater 46 = .ok (.ireturn, 1) := by decide +kernel
set_option maxRecDepth 20000 in
theorem ggX6_sizeOfDeadList_X4_isHolder : GoodIn wsX6_sizeOfDeadList wsX4_isHolder := goodIn_r _ [7, 8, 9, 10, 6, 11, 12, 50, 51, 52, 53, 54, 55, 56, 57, 58, 59, 60] (by decide +kernel) (by decide +kernel)
set_option maxRecDepth 20000 in
theorem gX6_sizeOfDeadList_X4_isHolder : GoodIn wsX6_sizeOfDeadList (wsV RX6 97 RX4 yX4_isHolder wsX4_isHolder) := goodIn_app (goodIn_of _ (by decide +kernel)) ggX6_sizeOfDeadList_X4_isHolder
set_option maxRecDepth 20000 in
theorem ggX6_sizeOfDeadList_X4_inChain : GoodIn wsX6_sizeOfDeadList wsX4_inChain := goodIn_r _ [16, 17, 18, 19, 6, 20, 21, 50, 51, 52, 53, 54, 55, 56, 57, 58, 59, 60] (by decide +kernel) (by decide +kernel)
set_option maxRecDepth 20000 in
theorem gX6_sizeOfDeadList_X4_inChain : GoodIn wsX6_sizeOfDeadList (wsV RX6 101 RX4 yX4_inChain wsX4_inChain) := goodIn_app (goodIn_of _ (by decide +kernel)) ggX6_sizeOfDeadList_X4_inChain
set_option maxRecDepth 20000 in
theorem ggX6_sizeOfDeadList_X4_prevOf : GoodIn wsX6_sizeOfDeadList wsX4_prevOf := goodIn_r _ [20, 21, 50, 51, 52, 53, 54, 55, 56, 57, 58, 59, 60] (by decide +kernel) (by decide +kernel)
set_option maxRecDepth 20000 in
theorem gX6_sizeOfDeadList_X4_prevOf : GoodIn wsX6_sizeOfDeadList (wsV RX6 36 RX4 yX4_prevOf wsX4_prevOf) := goodIn_app (goodIn_of _ (by decide +kernel)) ggX6_sizeOfDeadList_X4_prevOf
set_option maxRecDepth 20000 in
theorem ggX6_sizeOfDeadList_X4_madeOf : GoodIn wsX6_sizeOfDeadList wsX4_madeOf := goodIn_r _ [26, 27, 50, 51, 52, 53, 54, 55, 56, 57, 58, 59, 60] (by decide +kernel) (by decide +kernel)
set_option maxRecDepth 20000 in
theorem gX6_sizeOfDeadList_X4_madeOf : GoodIn wsX6_sizeOfDeadList (wsV RX6 33 RX4 yX4_madeOf wsX4_madeOf) := goodIn_app (goodIn_of _ (by decide +kernel)) ggX6_sizeOfDeadList_X4_madeOf
set_option maxRecDepth 20000 in
theorem ggX6_sizeOfDeadList_X6_deadIn : GoodIn wsX6_sizeOfDeadList wsX6_deadIn := goodIn_r _ [32, 1, 22, 18, 19, 6, 20, 21, 33, 34, 35, 36, 37, 48, 49, 50, 51, 52, 53, 54, 55, 56, 57, 58, 59, 60] (by decide +kernel) (by decide +kernel)
set_option maxRecDepth 20000 in
theorem gX6_sizeOfDeadList_X6_deadIn : GoodIn wsX6_sizeOfDeadList (wsV RX6 87 RX6 yX6_deadIn wsX6_deadIn) := goodIn_app (goodIn_of _ (by decide +kernel)) ggX6_sizeOfDeadList_X6_deadIn
set_option maxRecDepth 20000 in
theorem ggX6_sizeOfDeadList_X4_birthOf : GoodIn wsX6_sizeOfDeadList wsX4_birthOf := goodIn_r _ [41, 42, 50, 51, 52, 53, 54, 55, 56, 57, 58, 59, 60] (by decide +kernel) (by decide +kernel)
set_option maxRecDepth 20000 in
theorem gX6_sizeOfDeadList_X4_birthOf : GoodIn wsX6_sizeOfDeadList (wsV RX6 70 RX4 yX4_birthOf wsX4_birthOf) := goodIn_app (goodIn_of _ (by decide +kernel)) ggX6_sizeOfDeadList_X4_birthOf
set_option maxRecDepth 20000 in
theorem ggX6_sizeOfDeadList_X4_sizeOf : GoodIn wsX6_sizeOfDeadList wsX4_sizeOf := goodIn_r _ [46, 47, 50, 51, 52, 53, 54, 55, 56, 57, 58, 59, 60] (by decide +kernel) (by decide +kernel)
set_option maxRecDepth 20000 in
theorem gX6_sizeOfDeadList_X4_sizeOf : GoodIn wsX6_sizeOfDeadList (wsV RX6 67 RX4 yX4_sizeOf wsX4_sizeOf) := goodIn_app (goodIn_of _ (by decide +kernel)) ggX6_sizeOfDeadList_X4_sizeOf
theorem dX6_sizeOfDeadList_0 : decode cX6_sizeOfDeadList 0 = .ok (.aload_n 0, 1) := by decide +kernel
theorem dX6_sizeOfDeadList_1 : decode cX6_sizeOfDeadList 1 = .ok (.getfield 9, 3) := by decide +kernel
theorem dX6_sizeOfDeadList_4 : decode cX6_sizeOfDeadList 4 = .ok (.iload_n 1, 1) := by decide +kernel
theorem dX6_sizeOfDeadList_5 : decode cX6_sizeOfDeadList 5 = .ok (.invokevirtual 97, 3) := by decide +kernel
theorem dX6_sizeOfDeadList_8 : decode cX6_sizeOfDeadList 8 = .ok (.ifCond .eq 15, 3) := by decide +kernel
theorem dX6_sizeOfDeadList_11 : decode cX6_sizeOfDeadList 11 = .ok (.aload_n 0, 1) := by decide +kernel
theorem dX6_sizeOfDeadList_12 : decode cX6_sizeOfDeadList 12 = .ok (.getfield 9, 3) := by decide +kernel
theorem dX6_sizeOfDeadList_15 : decode cX6_sizeOfDeadList 15 = .ok (.iload_n 1, 1) := by decide +kernel
theorem dX6_sizeOfDeadList_16 : decode cX6_sizeOfDeadList 16 = .ok (.iload_n 2, 1) := by decide +kernel
theorem dX6_sizeOfDeadList_17 : decode cX6_sizeOfDeadList 17 = .ok (.invokevirtual 101, 3) := by decide +kernel
theorem dX6_sizeOfDeadList_20 : decode cX6_sizeOfDeadList 20 = .ok (.goto 4, 3) := by decide +kernel
theorem dX6_sizeOfDeadList_23 : decode cX6_sizeOfDeadList 23 = .ok (.iconst (-1), 1) := by decide +kernel
theorem dX6_sizeOfDeadList_24 : decode cX6_sizeOfDeadList 24 = .ok (.istore_n 3, 1) := by decide +kernel
theorem dX6_sizeOfDeadList_25 : decode cX6_sizeOfDeadList 25 = .ok (.iload_n 3, 1) := by decide +kernel
theorem dX6_sizeOfDeadList_26 : decode cX6_sizeOfDeadList 26 = .ok (.iconst (-1), 1) := by decide +kernel
theorem dX6_sizeOfDeadList_27 : decode cX6_sizeOfDeadList 27 = .ok (.if_icmp .ne 7, 3) := by decide +kernel
theorem dX6_sizeOfDeadList_30 : decode cX6_sizeOfDeadList 30 = .ok (.ldc2_w 104, 3) := by decide +kernel
theorem dX6_sizeOfDeadList_33 : decode cX6_sizeOfDeadList 33 = .ok (.lreturn, 1) := by decide +kernel
theorem dX6_sizeOfDeadList_34 : decode cX6_sizeOfDeadList 34 = .ok (.aload_n 0, 1) := by decide +kernel
theorem dX6_sizeOfDeadList_35 : decode cX6_sizeOfDeadList 35 = .ok (.getfield 9, 3) := by decide +kernel
theorem dX6_sizeOfDeadList_38 : decode cX6_sizeOfDeadList 38 = .ok (.aload_n 0, 1) := by decide +kernel
theorem dX6_sizeOfDeadList_39 : decode cX6_sizeOfDeadList 39 = .ok (.getfield 9, 3) := by decide +kernel
theorem dX6_sizeOfDeadList_42 : decode cX6_sizeOfDeadList 42 = .ok (.iload_n 3, 1) := by decide +kernel
theorem dX6_sizeOfDeadList_43 : decode cX6_sizeOfDeadList 43 = .ok (.invokevirtual 36, 3) := by decide +kernel
theorem dX6_sizeOfDeadList_46 : decode cX6_sizeOfDeadList 46 = .ok (.invokevirtual 33, 3) := by decide +kernel
theorem dX6_sizeOfDeadList_49 : decode cX6_sizeOfDeadList 49 = .ok (.istore 4, 2) := by decide +kernel
theorem dX6_sizeOfDeadList_51 : decode cX6_sizeOfDeadList 51 = .ok (.lconst 0, 1) := by decide +kernel
theorem dX6_sizeOfDeadList_52 : decode cX6_sizeOfDeadList 52 = .ok (.lstore 5, 2) := by decide +kernel
theorem dX6_sizeOfDeadList_54 : decode cX6_sizeOfDeadList 54 = .ok (.iconst 0, 1) := by decide +kernel
theorem dX6_sizeOfDeadList_55 : decode cX6_sizeOfDeadList 55 = .ok (.istore 7, 2) := by decide +kernel
theorem dX6_sizeOfDeadList_57 : decode cX6_sizeOfDeadList 57 = .ok (.iload 7, 2) := by decide +kernel
theorem dX6_sizeOfDeadList_59 : decode cX6_sizeOfDeadList 59 = .ok (.bipush 12, 2) := by decide +kernel
theorem dX6_sizeOfDeadList_61 : decode cX6_sizeOfDeadList 61 = .ok (.if_icmp .ge 70, 3) := by decide +kernel
theorem dX6_sizeOfDeadList_64 : decode cX6_sizeOfDeadList 64 = .ok (.aload_n 0, 1) := by decide +kernel
theorem dX6_sizeOfDeadList_65 : decode cX6_sizeOfDeadList 65 = .ok (.iload_n 1, 1) := by decide +kernel
theorem dX6_sizeOfDeadList_66 : decode cX6_sizeOfDeadList 66 = .ok (.iload 7, 2) := by decide +kernel
theorem dX6_sizeOfDeadList_68 : decode cX6_sizeOfDeadList 68 = .ok (.invokevirtual 87, 3) := by decide +kernel
theorem dX6_sizeOfDeadList_71 : decode cX6_sizeOfDeadList 71 = .ok (.istore 8, 2) := by decide +kernel
theorem dX6_sizeOfDeadList_73 : decode cX6_sizeOfDeadList 73 = .ok (.aload_n 0, 1) := by decide +kernel
theorem dX6_sizeOfDeadList_74 : decode cX6_sizeOfDeadList 74 = .ok (.getfield 9, 3) := by decide +kernel
theorem dX6_sizeOfDeadList_77 : decode cX6_sizeOfDeadList 77 = .ok (.iload 8, 2) := by decide +kernel
theorem dX6_sizeOfDeadList_79 : decode cX6_sizeOfDeadList 79 = .ok (.invokevirtual 70, 3) := by decide +kernel
theorem dX6_sizeOfDeadList_82 : decode cX6_sizeOfDeadList 82 = .ok (.istore 9, 2) := by decide +kernel
theorem dX6_sizeOfDeadList_84 : decode cX6_sizeOfDeadList 84 = .ok (.iload 8, 2) := by decide +kernel
theorem dX6_sizeOfDeadList_86 : decode cX6_sizeOfDeadList 86 = .ok (.iconst (-1), 1) := by decide +kernel
theorem dX6_sizeOfDeadList_87 : decode cX6_sizeOfDeadList 87 = .ok (.if_icmp .eq 38, 3) := by decide +kernel
theorem dX6_sizeOfDeadList_90 : decode cX6_sizeOfDeadList 90 = .ok (.iload 9, 2) := by decide +kernel
theorem dX6_sizeOfDeadList_92 : decode cX6_sizeOfDeadList 92 = .ok (.aload_n 0, 1) := by decide +kernel
theorem dX6_sizeOfDeadList_93 : decode cX6_sizeOfDeadList 93 = .ok (.getfield 9, 3) := by decide +kernel
theorem dX6_sizeOfDeadList_96 : decode cX6_sizeOfDeadList 96 = .ok (.iload_n 3, 1) := by decide +kernel
theorem dX6_sizeOfDeadList_97 : decode cX6_sizeOfDeadList 97 = .ok (.invokevirtual 33, 3) := by decide +kernel
theorem dX6_sizeOfDeadList_100 : decode cX6_sizeOfDeadList 100 = .ok (.if_icmp .gt 25, 3) := by decide +kernel
theorem dX6_sizeOfDeadList_103 : decode cX6_sizeOfDeadList 103 = .ok (.iload 9, 2) := by decide +kernel
theorem dX6_sizeOfDeadList_105 : decode cX6_sizeOfDeadList 105 = .ok (.iload 4, 2) := by decide +kernel
theorem dX6_sizeOfDeadList_107 : decode cX6_sizeOfDeadList 107 = .ok (.if_icmp .le 18, 3) := by decide +kernel
theorem dX6_sizeOfDeadList_110 : decode cX6_sizeOfDeadList 110 = .ok (.lload 5, 2) := by decide +kernel
theorem dX6_sizeOfDeadList_112 : decode cX6_sizeOfDeadList 112 = .ok (.aload_n 0, 1) := by decide +kernel
theorem dX6_sizeOfDeadList_113 : decode cX6_sizeOfDeadList 113 = .ok (.getfield 9, 3) := by decide +kernel
theorem dX6_sizeOfDeadList_116 : decode cX6_sizeOfDeadList 116 = .ok (.iload 8, 2) := by decide +kernel
theorem dX6_sizeOfDeadList_118 : decode cX6_sizeOfDeadList 118 = .ok (.invokevirtual 67, 3) := by decide +kernel
theorem dX6_sizeOfDeadList_121 : decode cX6_sizeOfDeadList 121 = .ok (.i2l, 1) := by decide +kernel
theorem dX6_sizeOfDeadList_122 : decode cX6_sizeOfDeadList 122 = .ok (.ladd, 1) := by decide +kernel
theorem dX6_sizeOfDeadList_123 : decode cX6_sizeOfDeadList 123 = .ok (.lstore 5, 2) := by decide +kernel
theorem dX6_sizeOfDeadList_125 : decode cX6_sizeOfDeadList 125 = .ok (.iinc 7 1, 3) := by decide +kernel
theorem dX6_sizeOfDeadList_128 : decode cX6_sizeOfDeadList 128 = .ok (.goto (-71), 3) := by decide +kernel
theorem dX6_sizeOfDeadList_131 : decode cX6_sizeOfDeadList 131 = .ok (.lload 5, 2) := by decide +kernel
theorem dX6_sizeOfDeadList_133 : decode cX6_sizeOfDeadList 133 = .ok (.lreturn, 1) := by decide +kernel
set_option maxRecDepth 20000 in
theorem ggX6_sizeHeldOnlyBy_X2_look : GoodIn wsX6_sizeHeldOnlyBy wsX2_look := goodIn_r _ [7, 8, 9, 10, 11, 12, 13, 14, 15, 27, 28, 29, 30, 31, 32, 33, 34, 35, 36, 37, 38, 39] (by decide +kernel) (by decide +kernel)
set_option maxRecDepth 20000 in
theorem gX6_sizeHeldOnlyBy_X2_look : GoodIn wsX6_sizeHeldOnlyBy (wsV RX6 73 RX2 yX2_look wsX2_look) := goodIn_app (goodIn_of _ (by decide +kernel)) ggX6_sizeHeldOnlyBy_X2_look
set_option maxRecDepth 20000 in
theorem ggX6_sizeHeldOnlyBy_X2_setOf : GoodIn wsX6_sizeHeldOnlyBy wsX2_setOf := goodIn_r _ [19, 8, 27, 28] (by decide +kernel) (by decide +kernel)
set_option maxRecDepth 20000 in
theorem gX6_sizeHeldOnlyBy_X2_setOf : GoodIn wsX6_sizeHeldOnlyBy (wsV RX6 76 RX2 yX2_setOf wsX2_setOf) := goodIn_app (goodIn_of _ (by decide +kernel)) ggX6_sizeHeldOnlyBy_X2_setOf
set_option maxRecDepth 20000 in
theorem ggX6_sizeHeldOnlyBy_X4_sizeOf : GoodIn wsX6_sizeHeldOnlyBy wsX4_sizeOf := goodIn_r _ [23, 24, 29, 30, 31, 32, 33, 34, 35, 36, 37, 38, 39] (by decide +kernel) (by decide +kernel)
set_option maxRecDepth 20000 in
theorem gX6_sizeHeldOnlyBy_X4_sizeOf : GoodIn wsX6_sizeHeldOnlyBy (wsV RX6 67 RX4 yX4_sizeOf wsX4_sizeOf) := goodIn_app (goodIn_of _ (by decide +kernel)) ggX6_sizeHeldOnlyBy_X4_sizeOf
theorem dX6_sizeHeldOnlyBy_0 : decode cX6_sizeHeldOnlyBy 0 = .ok (.aload_n 0, 1) := by decide +kernel
theorem dX6_sizeHeldOnlyBy_1 : decode cX6_sizeHeldOnlyBy 1 = .ok (.getfield 20, 3) := by decide +kernel
theorem dX6_sizeHeldOnlyBy_4 : decode cX6_sizeHeldOnlyBy 4 = .ok (.invokevirtual 73, 3) := by decide +kernel
theorem dX6_sizeHeldOnlyBy_7 : decode cX6_sizeHeldOnlyBy 7 = .ok (.lconst 0, 1) := by decide +kernel
theorem dX6_sizeHeldOnlyBy_8 : decode cX6_sizeHeldOnlyBy 8 = .ok (.lstore_n 2, 1) := by decide +kernel
theorem dX6_sizeHeldOnlyBy_9 : decode cX6_sizeHeldOnlyBy 9 = .ok (.iconst 0, 1) := by decide +kernel
theorem dX6_sizeHeldOnlyBy_10 : decode cX6_sizeHeldOnlyBy 10 = .ok (.istore 4, 2) := by decide +kernel
theorem dX6_sizeHeldOnlyBy_12 : decode cX6_sizeHeldOnlyBy 12 = .ok (.iload 4, 2) := by decide +kernel
theorem dX6_sizeHeldOnlyBy_14 : decode cX6_sizeHeldOnlyBy 14 = .ok (.bipush 96, 2) := by decide +kernel
theorem dX6_sizeHeldOnlyBy_16 : decode cX6_sizeHeldOnlyBy 16 = .ok (.if_icmp .ge 38, 3) := by decide +kernel
theorem dX6_sizeHeldOnlyBy_19 : decode cX6_sizeHeldOnlyBy 19 = .ok (.aload_n 0, 1) := by decide +kernel
theorem dX6_sizeHeldOnlyBy_20 : decode cX6_sizeHeldOnlyBy 20 = .ok (.getfield 20, 3) := by decide +kernel
theorem dX6_sizeHeldOnlyBy_23 : decode cX6_sizeHeldOnlyBy 23 = .ok (.iload 4, 2) := by decide +kernel
theorem dX6_sizeHeldOnlyBy_25 : decode cX6_sizeHeldOnlyBy 25 = .ok (.invokevirtual 76, 3) := by decide +kernel
theorem dX6_sizeHeldOnlyBy_28 : decode cX6_sizeHeldOnlyBy 28 = .ok (.iload_n 1, 1) := by decide +kernel
theorem dX6_sizeHeldOnlyBy_29 : decode cX6_sizeHeldOnlyBy 29 = .ok (.iconst (-1), 1) := by decide +kernel
theorem dX6_sizeHeldOnlyBy_30 : decode cX6_sizeHeldOnlyBy 30 = .ok (.ixor, 1) := by decide +kernel
theorem dX6_sizeHeldOnlyBy_31 : decode cX6_sizeHeldOnlyBy 31 = .ok (.iand, 1) := by decide +kernel
theorem dX6_sizeHeldOnlyBy_32 : decode cX6_sizeHeldOnlyBy 32 = .ok (.ifCond .ne 16, 3) := by decide +kernel
theorem dX6_sizeHeldOnlyBy_35 : decode cX6_sizeHeldOnlyBy 35 = .ok (.lload_n 2, 1) := by decide +kernel
theorem dX6_sizeHeldOnlyBy_36 : decode cX6_sizeHeldOnlyBy 36 = .ok (.aload_n 0, 1) := by decide +kernel
theorem dX6_sizeHeldOnlyBy_37 : decode cX6_sizeHeldOnlyBy 37 = .ok (.getfield 9, 3) := by decide +kernel
theorem dX6_sizeHeldOnlyBy_40 : decode cX6_sizeHeldOnlyBy 40 = .ok (.iload 4, 2) := by decide +kernel
theorem dX6_sizeHeldOnlyBy_42 : decode cX6_sizeHeldOnlyBy 42 = .ok (.invokevirtual 67, 3) := by decide +kernel
theorem dX6_sizeHeldOnlyBy_45 : decode cX6_sizeHeldOnlyBy 45 = .ok (.i2l, 1) := by decide +kernel
theorem dX6_sizeHeldOnlyBy_46 : decode cX6_sizeHeldOnlyBy 46 = .ok (.ladd, 1) := by decide +kernel
theorem dX6_sizeHeldOnlyBy_47 : decode cX6_sizeHeldOnlyBy 47 = .ok (.lstore_n 2, 1) := by decide +kernel
theorem dX6_sizeHeldOnlyBy_48 : decode cX6_sizeHeldOnlyBy 48 = .ok (.iinc 4 1, 3) := by decide +kernel
theorem dX6_sizeHeldOnlyBy_51 : decode cX6_sizeHeldOnlyBy 51 = .ok (.goto (-39), 3) := by decide +kernel
theorem dX6_sizeHeldOnlyBy_54 : decode cX6_sizeHeldOnlyBy 54 = .ok (.lload_n 2, 1) := by decide +kernel
theorem dX6_sizeHeldOnlyBy_55 : decode cX6_sizeHeldOnlyBy 55 = .ok (.lreturn, 1) := by decide +kernel
set_option maxRecDepth 20000 in
theorem ggX6_sizeOfRange_X4_isSnapshot : GoodIn wsX6_sizeOfRange wsX4_isSnapshot := goodIn_r _ [7, 8, 9, 10, 6, 11, 12, 47, 48, 49, 50, 51, 52, 53, 54, 55, 56, 57] (by decide +kernel) (by decide +kernel)
set_option maxRecDepth 20000 in
theorem gX6_sizeOfRange_X4_isSnapshot : GoodIn wsX6_sizeOfRange (wsV RX6 106 RX4 yX4_isSnapshot wsX4_isSnapshot) := goodIn_app (goodIn_of _ (by decide +kernel)) ggX6_sizeOfRange_X4_isSnapshot
set_option maxRecDepth 20000 in
theorem ggX6_sizeOfRange_X6_sizeHeldOnlyBy : GoodIn wsX6_sizeOfRange wsX6_sizeHeldOnlyBy := goodIn_r _ [17, 18, 1, 19, 20, 21, 22, 23, 24, 25, 26, 27, 28, 6, 29, 30, 31, 32, 33, 34, 35, 36, 37, 38, 39, 45, 46, 58, 59, 47, 48, 49, 50, 51, 52, 53, 54, 55, 56, 57] (by decide +kernel) (by decide +kernel)
set_option maxRecDepth 20000 in
theorem gX6_sizeOfRange_X6_sizeHeldOnlyBy : GoodIn wsX6_sizeOfRange (wsV RX6 109 RX6 yX6_sizeHeldOnlyBy wsX6_sizeHeldOnlyBy) := goodIn_app (goodIn_of _ (by decide +kernel)) ggX6_sizeOfRange_X6_sizeHeldOnlyBy
set_option maxRecDepth 20000 in
theorem ggX6_sizeOfRange_X4_prevOf : GoodIn wsX6_sizeOfRange wsX4_prevOf := goodIn_r _ [43, 44, 47, 48, 49, 50, 51, 52, 53, 54, 55, 56, 57] (by decide +kernel) (by decide +kernel)
set_option maxRecDepth 20000 in
theorem gX6_sizeOfRange_X4_prevOf : GoodIn wsX6_sizeOfRange (wsV RX6 36 RX4 yX4_prevOf wsX4_prevOf) := goodIn_app (goodIn_of _ (by decide +kernel)) ggX6_sizeOfRange_X4_prevOf
theorem dX6_sizeOfRange_0 : decode cX6_sizeOfRange 0 = .ok (.aload_n 0, 1) := by decide +kernel
theorem dX6_sizeOfRange_1 : decode cX6_sizeOfRange 1 = .ok (.getfield 9, 3) := by decide +kernel
theorem dX6_sizeOfRange_4 : decode cX6_sizeOfRange 4 = .ok (.iload_n 1, 1) := by decide +kernel
theorem dX6_sizeOfRange_5 : decode cX6_sizeOfRange 5 = .ok (.invokevirtual 106, 3) := by decide +kernel
theorem dX6_sizeOfRange_8 : decode cX6_sizeOfRange 8 = .ok (.ifCond .eq 14, 3) := by decide +kernel
theorem dX6_sizeOfRange_11 : decode cX6_sizeOfRange 11 = .ok (.aload_n 0, 1) := by decide +kernel
theorem dX6_sizeOfRange_12 : decode cX6_sizeOfRange 12 = .ok (.getfield 9, 3) := by decide +kernel
theorem dX6_sizeOfRange_15 : decode cX6_sizeOfRange 15 = .ok (.iload_n 2, 1) := by decide +kernel
theorem dX6_sizeOfRange_16 : decode cX6_sizeOfRange 16 = .ok (.invokevirtual 106, 3) := by decide +kernel
theorem dX6_sizeOfRange_19 : decode cX6_sizeOfRange 19 = .ok (.ifCond .ne 7, 3) := by decide +kernel
theorem dX6_sizeOfRange_22 : decode cX6_sizeOfRange 22 = .ok (.ldc2_w 104, 3) := by decide +kernel
theorem dX6_sizeOfRange_25 : decode cX6_sizeOfRange 25 = .ok (.lreturn, 1) := by decide +kernel
theorem dX6_sizeOfRange_26 : decode cX6_sizeOfRange 26 = .ok (.iconst 0, 1) := by decide +kernel
theorem dX6_sizeOfRange_27 : decode cX6_sizeOfRange 27 = .ok (.istore_n 3, 1) := by decide +kernel
theorem dX6_sizeOfRange_28 : decode cX6_sizeOfRange 28 = .ok (.iload_n 2, 1) := by decide +kernel
theorem dX6_sizeOfRange_29 : decode cX6_sizeOfRange 29 = .ok (.istore 4, 2) := by decide +kernel
theorem dX6_sizeOfRange_31 : decode cX6_sizeOfRange 31 = .ok (.iconst 0, 1) := by decide +kernel
theorem dX6_sizeOfRange_32 : decode cX6_sizeOfRange 32 = .ok (.istore 5, 2) := by decide +kernel
theorem dX6_sizeOfRange_34 : decode cX6_sizeOfRange 34 = .ok (.iload 5, 2) := by decide +kernel
theorem dX6_sizeOfRange_36 : decode cX6_sizeOfRange 36 = .ok (.bipush 20, 2) := by decide +kernel
theorem dX6_sizeOfRange_38 : decode cX6_sizeOfRange 38 = .ok (.if_icmp .ge 45, 3) := by decide +kernel
theorem dX6_sizeOfRange_41 : decode cX6_sizeOfRange 41 = .ok (.iload 4, 2) := by decide +kernel
theorem dX6_sizeOfRange_43 : decode cX6_sizeOfRange 43 = .ok (.iconst (-1), 1) := by decide +kernel
theorem dX6_sizeOfRange_44 : decode cX6_sizeOfRange 44 = .ok (.if_icmp .eq 39, 3) := by decide +kernel
theorem dX6_sizeOfRange_47 : decode cX6_sizeOfRange 47 = .ok (.iload_n 3, 1) := by decide +kernel
theorem dX6_sizeOfRange_48 : decode cX6_sizeOfRange 48 = .ok (.iconst 1, 1) := by decide +kernel
theorem dX6_sizeOfRange_49 : decode cX6_sizeOfRange 49 = .ok (.iload 4, 2) := by decide +kernel
theorem dX6_sizeOfRange_51 : decode cX6_sizeOfRange 51 = .ok (.ishl, 1) := by decide +kernel
theorem dX6_sizeOfRange_52 : decode cX6_sizeOfRange 52 = .ok (.ior, 1) := by decide +kernel
theorem dX6_sizeOfRange_53 : decode cX6_sizeOfRange 53 = .ok (.istore_n 3, 1) := by decide +kernel
theorem dX6_sizeOfRange_54 : decode cX6_sizeOfRange 54 = .ok (.iload 4, 2) := by decide +kernel
theorem dX6_sizeOfRange_56 : decode cX6_sizeOfRange 56 = .ok (.iload_n 1, 1) := by decide +kernel
theorem dX6_sizeOfRange_57 : decode cX6_sizeOfRange 57 = .ok (.if_icmp .ne 9, 3) := by decide +kernel
theorem dX6_sizeOfRange_60 : decode cX6_sizeOfRange 60 = .ok (.aload_n 0, 1) := by decide +kernel
theorem dX6_sizeOfRange_61 : decode cX6_sizeOfRange 61 = .ok (.iload_n 3, 1) := by decide +kernel
theorem dX6_sizeOfRange_62 : decode cX6_sizeOfRange 62 = .ok (.invokevirtual 109, 3) := by decide +kernel
theorem dX6_sizeOfRange_65 : decode cX6_sizeOfRange 65 = .ok (.lreturn, 1) := by decide +kernel
theorem dX6_sizeOfRange_66 : decode cX6_sizeOfRange 66 = .ok (.aload_n 0, 1) := by decide +kernel
theorem dX6_sizeOfRange_67 : decode cX6_sizeOfRange 67 = .ok (.getfield 9, 3) := by decide +kernel
theorem dX6_sizeOfRange_70 : decode cX6_sizeOfRange 70 = .ok (.iload 4, 2) := by decide +kernel
theorem dX6_sizeOfRange_72 : decode cX6_sizeOfRange 72 = .ok (.invokevirtual 36, 3) := by decide +kernel
theorem dX6_sizeOfRange_75 : decode cX6_sizeOfRange 75 = .ok (.istore 4, 2) := by decide +kernel
theorem dX6_sizeOfRange_77 : decode cX6_sizeOfRange 77 = .ok (.iinc 5 1, 3) := by decide +kernel
theorem dX6_sizeOfRange_80 : decode cX6_sizeOfRange 80 = .ok (.goto (-46), 3) := by decide +kernel
theorem dX6_sizeOfRange_83 : decode cX6_sizeOfRange 83 = .ok (.ldc2_w 104, 3) := by decide +kernel
theorem dX6_sizeOfRange_86 : decode cX6_sizeOfRange 86 = .ok (.lreturn, 1) := by decide +kernel
set_option maxRecDepth 20000 in
theorem ggX6_sizeSince_X4_isHolder : GoodIn wsX6_sizeSince wsX4_isHolder := goodIn_r _ [7, 8, 9, 10, 6, 11, 12, 36, 37, 38, 39, 40, 41, 42, 43, 44, 45, 46] (by decide +kernel) (by decide +kernel)
set_option maxRecDepth 20000 in
theorem gX6_sizeSince_X4_isHolder : GoodIn wsX6_sizeSince (wsV RX6 97 RX4 yX4_isHolder wsX4_isHolder) := goodIn_app (goodIn_of _ (by decide +kernel)) ggX6_sizeSince_X4_isHolder
set_option maxRecDepth 20000 in
theorem ggX6_sizeSince_X4_kindOf : GoodIn wsX6_sizeSince wsX4_kindOf := goodIn_r _ [11, 12, 36, 37, 38, 39, 40, 41, 42, 43, 44, 45, 46] (by decide +kernel) (by decide +kernel)
set_option maxRecDepth 20000 in
theorem gX6_sizeSince_X4_kindOf : GoodIn wsX6_sizeSince (wsV RX6 30 RX4 yX4_kindOf wsX4_kindOf) := goodIn_app (goodIn_of _ (by decide +kernel)) ggX6_sizeSince_X4_kindOf
set_option maxRecDepth 20000 in
theorem ggX6_sizeSince_X4_blockIn : GoodIn wsX6_sizeSince wsX4_blockIn := goodIn_r _ [17, 18, 36, 37, 38, 39, 40, 41, 42, 43, 44, 45, 46] (by decide +kernel) (by decide +kernel)
set_option maxRecDepth 20000 in
theorem gX6_sizeSince_X4_blockIn : GoodIn wsX6_sizeSince (wsV RX6 60 RX4 yX4_blockIn wsX4_blockIn) := goodIn_app (goodIn_of _ (by decide +kernel)) ggX6_sizeSince_X4_blockIn
set_option maxRecDepth 20000 in
theorem ggX6_sizeSince_X4_birthOf : GoodIn wsX6_sizeSince wsX4_birthOf := goodIn_r _ [22, 23, 36, 37, 38, 39, 40, 41, 42, 43, 44, 45, 46] (by decide +kernel) (by decide +kernel)
set_option maxRecDepth 20000 in
theorem gX6_sizeSince_X4_birthOf : GoodIn wsX6_sizeSince (wsV RX6 70 RX4 yX4_birthOf wsX4_birthOf) := goodIn_app (goodIn_of _ (by decide +kernel)) ggX6_sizeSince_X4_birthOf
set_option maxRecDepth 20000 in
theorem ggX6_sizeSince_X4_madeOf : GoodIn wsX6_sizeSince wsX4_madeOf := goodIn_r _ [27, 28, 36, 37, 38, 39, 40, 41, 42, 43, 44, 45, 46] (by decide +kernel) (by decide +kernel)
set_option maxRecDepth 20000 in
theorem gX6_sizeSince_X4_madeOf : GoodIn wsX6_sizeSince (wsV RX6 33 RX4 yX4_madeOf wsX4_madeOf) := goodIn_app (goodIn_of _ (by decide +kernel)) ggX6_sizeSince_X4_madeOf
set_option maxRecDepth 20000 in
theorem ggX6_sizeSince_X4_sizeOf : GoodIn wsX6_sizeSince wsX4_sizeOf := goodIn_r _ [32, 33, 36, 37, 38, 39, 40, 41, 42, 43, 44, 45, 46] (by decide +kernel) (by decide +kernel)
set_option maxRecDepth 20000 in
theorem gX6_sizeSince_X4_sizeOf : GoodIn wsX6_sizeSince (wsV RX6 67 RX4 yX4_sizeOf wsX4_sizeOf) := goodIn_app (goodIn_of _ (by decide +kernel)) ggX6_sizeSince_X4_sizeOf
theorem dX6_sizeSince_0 : decode cX6_sizeSince 0 = .ok (.aload_n 0, 1) := by decide +kernel
theorem dX6_sizeSince_1 : decode cX6_sizeSince 1 = .ok (.getfield 9, 3) := by decide +kernel
theorem dX6_sizeSince_4 : decode cX6_sizeSince 4 = .ok (.iload_n 1, 1) := by decide +kernel
theorem dX6_sizeSince_5 : decode cX6_sizeSince 5 = .ok (.invokevirtual 97, 3) := by decide +kernel
theorem dX6_sizeSince_8 : decode cX6_sizeSince 8 = .ok (.ifCond .eq 15, 3) := by decide +kernel
theorem dX6_sizeSince_11 : decode cX6_sizeSince 11 = .ok (.aload_n 0, 1) := by decide +kernel
theorem dX6_sizeSince_12 : decode cX6_sizeSince 12 = .ok (.getfield 9, 3) := by decide +kernel
theorem dX6_sizeSince_15 : decode cX6_sizeSince 15 = .ok (.iload_n 2, 1) := by decide +kernel
theorem dX6_sizeSince_16 : decode cX6_sizeSince 16 = .ok (.invokevirtual 30, 3) := by decide +kernel
theorem dX6_sizeSince_19 : decode cX6_sizeSince 19 = .ok (.iconst (-1), 1) := by decide +kernel
theorem dX6_sizeSince_20 : decode cX6_sizeSince 20 = .ok (.if_icmp .ne 7, 3) := by decide +kernel
theorem dX6_sizeSince_23 : decode cX6_sizeSince 23 = .ok (.ldc2_w 104, 3) := by decide +kernel
theorem dX6_sizeSince_26 : decode cX6_sizeSince 26 = .ok (.lreturn, 1) := by decide +kernel
theorem dX6_sizeSince_27 : decode cX6_sizeSince 27 = .ok (.lconst 0, 1) := by decide +kernel
theorem dX6_sizeSince_28 : decode cX6_sizeSince 28 = .ok (.lstore_n 3, 1) := by decide +kernel
theorem dX6_sizeSince_29 : decode cX6_sizeSince 29 = .ok (.iconst 0, 1) := by decide +kernel
theorem dX6_sizeSince_30 : decode cX6_sizeSince 30 = .ok (.istore 5, 2) := by decide +kernel
theorem dX6_sizeSince_32 : decode cX6_sizeSince 32 = .ok (.iload 5, 2) := by decide +kernel
theorem dX6_sizeSince_34 : decode cX6_sizeSince 34 = .ok (.bipush 12, 2) := by decide +kernel
theorem dX6_sizeSince_36 : decode cX6_sizeSince 36 = .ok (.if_icmp .ge 54, 3) := by decide +kernel
theorem dX6_sizeSince_39 : decode cX6_sizeSince 39 = .ok (.aload_n 0, 1) := by decide +kernel
theorem dX6_sizeSince_40 : decode cX6_sizeSince 40 = .ok (.getfield 9, 3) := by decide +kernel
theorem dX6_sizeSince_43 : decode cX6_sizeSince 43 = .ok (.iload_n 1, 1) := by decide +kernel
theorem dX6_sizeSince_44 : decode cX6_sizeSince 44 = .ok (.iload 5, 2) := by decide +kernel
theorem dX6_sizeSince_46 : decode cX6_sizeSince 46 = .ok (.invokevirtual 60, 3) := by decide +kernel
theorem dX6_sizeSince_49 : decode cX6_sizeSince 49 = .ok (.istore 6, 2) := by decide +kernel
theorem dX6_sizeSince_51 : decode cX6_sizeSince 51 = .ok (.aload_n 0, 1) := by decide +kernel
theorem dX6_sizeSince_52 : decode cX6_sizeSince 52 = .ok (.getfield 9, 3) := by decide +kernel
theorem dX6_sizeSince_55 : decode cX6_sizeSince 55 = .ok (.iload 6, 2) := by decide +kernel
theorem dX6_sizeSince_57 : decode cX6_sizeSince 57 = .ok (.invokevirtual 70, 3) := by decide +kernel
theorem dX6_sizeSince_60 : decode cX6_sizeSince 60 = .ok (.aload_n 0, 1) := by decide +kernel
theorem dX6_sizeSince_61 : decode cX6_sizeSince 61 = .ok (.getfield 9, 3) := by decide +kernel
theorem dX6_sizeSince_64 : decode cX6_sizeSince 64 = .ok (.iload_n 2, 1) := by decide +kernel
theorem dX6_sizeSince_65 : decode cX6_sizeSince 65 = .ok (.invokevirtual 33, 3) := by decide +kernel
theorem dX6_sizeSince_68 : decode cX6_sizeSince 68 = .ok (.if_icmp .le 16, 3) := by decide +kernel
theorem dX6_sizeSince_71 : decode cX6_sizeSince 71 = .ok (.lload_n 3, 1) := by decide +kernel
theorem dX6_sizeSince_72 : decode cX6_sizeSince 72 = .ok (.aload_n 0, 1) := by decide +kernel
theorem dX6_sizeSince_73 : decode cX6_sizeSince 73 = .ok (.getfield 9, 3) := by decide +kernel
theorem dX6_sizeSince_76 : decode cX6_sizeSince 76 = .ok (.iload 6, 2) := by decide +kernel
theorem dX6_sizeSince_78 : decode cX6_sizeSince 78 = .ok (.invokevirtual 67, 3) := by decide +kernel
theorem dX6_sizeSince_81 : decode cX6_sizeSince 81 = .ok (.i2l, 1) := by decide +kernel
theorem dX6_sizeSince_82 : decode cX6_sizeSince 82 = .ok (.ladd, 1) := by decide +kernel
theorem dX6_sizeSince_83 : decode cX6_sizeSince 83 = .ok (.lstore_n 3, 1) := by decide +kernel
theorem dX6_sizeSince_84 : decode cX6_sizeSince 84 = .ok (.iinc 5 1, 3) := by decide +kernel
theorem dX6_sizeSince_87 : decode cX6_sizeSince 87 = .ok (.goto (-55), 3) := by decide +kernel
theorem dX6_sizeSince_90 : decode cX6_sizeSince 90 = .ok (.lload_n 3, 1) := by decide +kernel
theorem dX6_sizeSince_91 : decode cX6_sizeSince 91 = .ok (.lreturn, 1) := by decide +kernel
set_option maxRecDepth 20000 in
theorem ggX6_sizeInBoth_X4_isHolder : GoodIn wsX6_sizeInBoth wsX4_isHolder := goodIn_r _ [7, 8, 9, 10, 6, 11, 12, 25, 26, 27, 28, 29, 30, 31, 32, 33, 34, 35] (by decide +kernel) (by decide +kernel)
set_option maxRecDepth 20000 in
theorem gX6_sizeInBoth_X4_isHolder : GoodIn wsX6_sizeInBoth (wsV RX6 97 RX4 yX4_isHolder wsX4_isHolder) := goodIn_app (goodIn_of _ (by decide +kernel)) ggX6_sizeInBoth_X4_isHolder
set_option maxRecDepth 20000 in
theorem ggX6_sizeInBoth_X4_blockIn : GoodIn wsX6_sizeInBoth wsX4_blockIn := goodIn_r _ [16, 17, 25, 26, 27, 28, 29, 30, 31, 32, 33, 34, 35] (by decide +kernel) (by decide +kernel)
set_option maxRecDepth 20000 in
theorem gX6_sizeInBoth_X4_blockIn : GoodIn wsX6_sizeInBoth (wsV RX6 60 RX4 yX4_blockIn wsX4_blockIn) := goodIn_app (goodIn_of _ (by decide +kernel)) ggX6_sizeInBoth_X4_blockIn
set_option maxRecDepth 20000 in
theorem ggX6_sizeInBoth_X4_sizeOf : GoodIn wsX6_sizeInBoth wsX4_sizeOf := goodIn_r _ [21, 22, 25, 26, 27, 28, 29, 30, 31, 32, 33, 34, 35] (by decide +kernel) (by decide +kernel)
set_option maxRecDepth 20000 in
theorem gX6_sizeInBoth_X4_sizeOf : GoodIn wsX6_sizeInBoth (wsV RX6 67 RX4 yX4_sizeOf wsX4_sizeOf) := goodIn_app (goodIn_of _ (by decide +kernel)) ggX6_sizeInBoth_X4_sizeOf
theorem dX6_sizeInBoth_0 : decode cX6_sizeInBoth 0 = .ok (.aload_n 0, 1) := by decide +kernel
theorem dX6_sizeInBoth_1 : decode cX6_sizeInBoth 1 = .ok (.getfield 9, 3) := by decide +kernel
theorem dX6_sizeInBoth_4 : decode cX6_sizeInBoth 4 = .ok (.iload_n 1, 1) := by decide +kernel
theorem dX6_sizeInBoth_5 : decode cX6_sizeInBoth 5 = .ok (.invokevirtual 97, 3) := by decide +kernel
theorem dX6_sizeInBoth_8 : decode cX6_sizeInBoth 8 = .ok (.ifCond .eq 14, 3) := by decide +kernel
theorem dX6_sizeInBoth_11 : decode cX6_sizeInBoth 11 = .ok (.aload_n 0, 1) := by decide +kernel
theorem dX6_sizeInBoth_12 : decode cX6_sizeInBoth 12 = .ok (.getfield 9, 3) := by decide +kernel
theorem dX6_sizeInBoth_15 : decode cX6_sizeInBoth 15 = .ok (.iload_n 2, 1) := by decide +kernel
theorem dX6_sizeInBoth_16 : decode cX6_sizeInBoth 16 = .ok (.invokevirtual 97, 3) := by decide +kernel
theorem dX6_sizeInBoth_19 : decode cX6_sizeInBoth 19 = .ok (.ifCond .ne 7, 3) := by decide +kernel
theorem dX6_sizeInBoth_22 : decode cX6_sizeInBoth 22 = .ok (.ldc2_w 104, 3) := by decide +kernel
theorem dX6_sizeInBoth_25 : decode cX6_sizeInBoth 25 = .ok (.lreturn, 1) := by decide +kernel
theorem dX6_sizeInBoth_26 : decode cX6_sizeInBoth 26 = .ok (.lconst 0, 1) := by decide +kernel
theorem dX6_sizeInBoth_27 : decode cX6_sizeInBoth 27 = .ok (.lstore_n 3, 1) := by decide +kernel
theorem dX6_sizeInBoth_28 : decode cX6_sizeInBoth 28 = .ok (.iconst 0, 1) := by decide +kernel
theorem dX6_sizeInBoth_29 : decode cX6_sizeInBoth 29 = .ok (.istore 5, 2) := by decide +kernel
theorem dX6_sizeInBoth_31 : decode cX6_sizeInBoth 31 = .ok (.iload 5, 2) := by decide +kernel
theorem dX6_sizeInBoth_33 : decode cX6_sizeInBoth 33 = .ok (.bipush 12, 2) := by decide +kernel
theorem dX6_sizeInBoth_35 : decode cX6_sizeInBoth 35 = .ok (.if_icmp .ge 49, 3) := by decide +kernel
theorem dX6_sizeInBoth_38 : decode cX6_sizeInBoth 38 = .ok (.aload_n 0, 1) := by decide +kernel
theorem dX6_sizeInBoth_39 : decode cX6_sizeInBoth 39 = .ok (.getfield 9, 3) := by decide +kernel
theorem dX6_sizeInBoth_42 : decode cX6_sizeInBoth 42 = .ok (.iload_n 1, 1) := by decide +kernel
theorem dX6_sizeInBoth_43 : decode cX6_sizeInBoth 43 = .ok (.iload 5, 2) := by decide +kernel
theorem dX6_sizeInBoth_45 : decode cX6_sizeInBoth 45 = .ok (.invokevirtual 60, 3) := by decide +kernel
theorem dX6_sizeInBoth_48 : decode cX6_sizeInBoth 48 = .ok (.istore 6, 2) := by decide +kernel
theorem dX6_sizeInBoth_50 : decode cX6_sizeInBoth 50 = .ok (.iload 6, 2) := by decide +kernel
theorem dX6_sizeInBoth_52 : decode cX6_sizeInBoth 52 = .ok (.aload_n 0, 1) := by decide +kernel
theorem dX6_sizeInBoth_53 : decode cX6_sizeInBoth 53 = .ok (.getfield 9, 3) := by decide +kernel
theorem dX6_sizeInBoth_56 : decode cX6_sizeInBoth 56 = .ok (.iload_n 2, 1) := by decide +kernel
theorem dX6_sizeInBoth_57 : decode cX6_sizeInBoth 57 = .ok (.iload 5, 2) := by decide +kernel
theorem dX6_sizeInBoth_59 : decode cX6_sizeInBoth 59 = .ok (.invokevirtual 60, 3) := by decide +kernel
theorem dX6_sizeInBoth_62 : decode cX6_sizeInBoth 62 = .ok (.if_icmp .ne 16, 3) := by decide +kernel
theorem dX6_sizeInBoth_65 : decode cX6_sizeInBoth 65 = .ok (.lload_n 3, 1) := by decide +kernel
theorem dX6_sizeInBoth_66 : decode cX6_sizeInBoth 66 = .ok (.aload_n 0, 1) := by decide +kernel
theorem dX6_sizeInBoth_67 : decode cX6_sizeInBoth 67 = .ok (.getfield 9, 3) := by decide +kernel
theorem dX6_sizeInBoth_70 : decode cX6_sizeInBoth 70 = .ok (.iload 6, 2) := by decide +kernel
theorem dX6_sizeInBoth_72 : decode cX6_sizeInBoth 72 = .ok (.invokevirtual 67, 3) := by decide +kernel
theorem dX6_sizeInBoth_75 : decode cX6_sizeInBoth 75 = .ok (.i2l, 1) := by decide +kernel
theorem dX6_sizeInBoth_76 : decode cX6_sizeInBoth 76 = .ok (.ladd, 1) := by decide +kernel
theorem dX6_sizeInBoth_77 : decode cX6_sizeInBoth 77 = .ok (.lstore_n 3, 1) := by decide +kernel
theorem dX6_sizeInBoth_78 : decode cX6_sizeInBoth 78 = .ok (.iinc 5 1, 3) := by decide +kernel
theorem dX6_sizeInBoth_81 : decode cX6_sizeInBoth 81 = .ok (.goto (-50), 3) := by decide +kernel
theorem dX6_sizeInBoth_84 : decode cX6_sizeInBoth 84 = .ok (.lload_n 3, 1) := by decide +kernel
theorem dX6_sizeInBoth_85 : decode cX6_sizeInBoth 85 = .ok (.lreturn, 1) := by decide +kernel
set_option maxRecDepth 20000 in
theorem ggX6_writeDifference_X5_layOut : GoodIn wsX6_writeDifference wsX5_layOut := goodIn_r _ [6, 7, 8, 9, 10, 11, 12, 13, 14, 15, 16, 42, 43, 44] (by decide +kernel) (by decide +kernel)
set_option maxRecDepth 20000 in
theorem gX6_writeDifference_X5_layOut : GoodIn wsX6_writeDifference (wsV RX6 113 RX5 yX5_layOut wsX5_layOut) := goodIn_app (goodIn_of _ (by decide +kernel)) ggX6_writeDifference_X5_layOut
set_option maxRecDepth 20000 in
theorem ggX6_writeDifference_X4_blockIn : GoodIn wsX6_writeDifference wsX4_blockIn := goodIn_r _ [21, 22, 45, 46, 47, 48, 49, 50, 51, 52, 53, 54, 55] (by decide +kernel) (by decide +kernel)
set_option maxRecDepth 20000 in
theorem gX6_writeDifference_X4_blockIn : GoodIn wsX6_writeDifference (wsV RX6 60 RX4 yX4_blockIn wsX4_blockIn) := goodIn_app (goodIn_of _ (by decide +kernel)) ggX6_writeDifference_X4_blockIn
set_option maxRecDepth 20000 in
theorem ggX6_writeDifference_X5_append : GoodIn wsX6_writeDifference wsX5_append := goodIn_r _ [26, 15, 27, 28, 29, 5, 30, 16, 7, 42, 43, 44] (by decide +kernel) (by decide +kernel)
set_option maxRecDepth 20000 in
theorem gX6_writeDifference_X5_append : GoodIn wsX6_writeDifference (wsV RX6 119 RX5 yX5_append wsX5_append) := goodIn_app (goodIn_of _ (by decide +kernel)) ggX6_writeDifference_X5_append
set_option maxRecDepth 20000 in
theorem ggX6_writeDifference_X4_sizeOf : GoodIn wsX6_writeDifference wsX4_sizeOf := goodIn_r _ [34, 35, 45, 46, 47, 48, 49, 50, 51, 52, 53, 54, 55] (by decide +kernel) (by decide +kernel)
set_option maxRecDepth 20000 in
theorem gX6_writeDifference_X4_sizeOf : GoodIn wsX6_writeDifference (wsV RX6 67 RX4 yX4_sizeOf wsX4_sizeOf) := goodIn_app (goodIn_of _ (by decide +kernel)) ggX6_writeDifference_X4_sizeOf
set_option maxRecDepth 20000 in
theorem ggX6_writeDifference_X5_size : GoodIn wsX6_writeDifference wsX5_size := goodIn_r _ [39, 15, 42, 43, 44] (by decide +kernel) (by decide +kernel)
set_option maxRecDepth 20000 in
theorem gX6_writeDifference_X5_size : GoodIn wsX6_writeDifference (wsV RX6 123 RX5 yX5_size wsX5_size) := goodIn_app (goodIn_of _ (by decide +kernel)) ggX6_writeDifference_X5_size
theorem dX6_writeDifference_0 : decode cX6_writeDifference 0 = .ok (.aload_n 3, 1) := by decide +kernel
theorem dX6_writeDifference_1 : decode cX6_writeDifference 1 = .ok (.iconst 1, 1) := by decide +kernel
theorem dX6_writeDifference_2 : decode cX6_writeDifference 2 = .ok (.iconst 0, 1) := by decide +kernel
theorem dX6_writeDifference_3 : decode cX6_writeDifference 3 = .ok (.invokevirtual 113, 3) := by decide +kernel
theorem dX6_writeDifference_6 : decode cX6_writeDifference 6 = .ok (.iconst 0, 1) := by decide +kernel
theorem dX6_writeDifference_7 : decode cX6_writeDifference 7 = .ok (.istore 4, 2) := by decide +kernel
theorem dX6_writeDifference_9 : decode cX6_writeDifference 9 = .ok (.iload 4, 2) := by decide +kernel
theorem dX6_writeDifference_11 : decode cX6_writeDifference 11 = .ok (.bipush 12, 2) := by decide +kernel
theorem dX6_writeDifference_13 : decode cX6_writeDifference 13 = .ok (.if_icmp .ge 57, 3) := by decide +kernel
theorem dX6_writeDifference_16 : decode cX6_writeDifference 16 = .ok (.aload_n 0, 1) := by decide +kernel
theorem dX6_writeDifference_17 : decode cX6_writeDifference 17 = .ok (.getfield 9, 3) := by decide +kernel
theorem dX6_writeDifference_20 : decode cX6_writeDifference 20 = .ok (.iload_n 2, 1) := by decide +kernel
theorem dX6_writeDifference_21 : decode cX6_writeDifference 21 = .ok (.iload 4, 2) := by decide +kernel
theorem dX6_writeDifference_23 : decode cX6_writeDifference 23 = .ok (.invokevirtual 60, 3) := by decide +kernel
theorem dX6_writeDifference_26 : decode cX6_writeDifference 26 = .ok (.istore 5, 2) := by decide +kernel
theorem dX6_writeDifference_28 : decode cX6_writeDifference 28 = .ok (.iload 5, 2) := by decide +kernel
theorem dX6_writeDifference_30 : decode cX6_writeDifference 30 = .ok (.aload_n 0, 1) := by decide +kernel
theorem dX6_writeDifference_31 : decode cX6_writeDifference 31 = .ok (.getfield 9, 3) := by decide +kernel
theorem dX6_writeDifference_34 : decode cX6_writeDifference 34 = .ok (.iload_n 1, 1) := by decide +kernel
theorem dX6_writeDifference_35 : decode cX6_writeDifference 35 = .ok (.iload 4, 2) := by decide +kernel
theorem dX6_writeDifference_37 : decode cX6_writeDifference 37 = .ok (.invokevirtual 60, 3) := by decide +kernel
theorem dX6_writeDifference_40 : decode cX6_writeDifference 40 = .ok (.if_icmp .eq 24, 3) := by decide +kernel
theorem dX6_writeDifference_43 : decode cX6_writeDifference 43 = .ok (.aload_n 3, 1) := by decide +kernel
theorem dX6_writeDifference_44 : decode cX6_writeDifference 44 = .ok (.iload 4, 2) := by decide +kernel
theorem dX6_writeDifference_46 : decode cX6_writeDifference 46 = .ok (.i2l, 1) := by decide +kernel
theorem dX6_writeDifference_47 : decode cX6_writeDifference 47 = .ok (.invokevirtual 119, 3) := by decide +kernel
theorem dX6_writeDifference_50 : decode cX6_writeDifference 50 = .ok (.aload_n 3, 1) := by decide +kernel
theorem dX6_writeDifference_51 : decode cX6_writeDifference 51 = .ok (.aload_n 0, 1) := by decide +kernel
theorem dX6_writeDifference_52 : decode cX6_writeDifference 52 = .ok (.getfield 9, 3) := by decide +kernel
theorem dX6_writeDifference_55 : decode cX6_writeDifference 55 = .ok (.iload 5, 2) := by decide +kernel
theorem dX6_writeDifference_57 : decode cX6_writeDifference 57 = .ok (.invokevirtual 67, 3) := by decide +kernel
theorem dX6_writeDifference_60 : decode cX6_writeDifference 60 = .ok (.i2l, 1) := by decide +kernel
theorem dX6_writeDifference_61 : decode cX6_writeDifference 61 = .ok (.invokevirtual 119, 3) := by decide +kernel
theorem dX6_writeDifference_64 : decode cX6_writeDifference 64 = .ok (.iinc 4 1, 3) := by decide +kernel
theorem dX6_writeDifference_67 : decode cX6_writeDifference 67 = .ok (.goto (-58), 3) := by decide +kernel
theorem dX6_writeDifference_70 : decode cX6_writeDifference 70 = .ok (.aload_n 3, 1) := by decide +kernel
theorem dX6_writeDifference_71 : decode cX6_writeDifference 71 = .ok (.invokevirtual 123, 3) := by decide +kernel
theorem dX6_writeDifference_74 : decode cX6_writeDifference 74 = .ok (.ireturn, 1) := by decide +kernel
set_option maxRecDepth 20000 in
theorem ggX7_init_X4_init : GoodIn wsX7_init wsX4_init := goodIn_r _ [33, 34, 2, 3, 35, 36, 37, 38, 39, 40, 41, 42, 43, 44, 45, 46, 91, 92, 93, 94, 95, 96, 97, 98, 99, 100, 101] (by decide +kernel) (by decide +kernel)
set_option maxRecDepth 20000 in
theorem gX7_init_X4_init : GoodIn wsX7_init (wsX4_init) := ggX7_init_X4_init
set_option maxRecDepth 20000 in
theorem ggX7_init_X0_init : GoodIn wsX7_init wsX0_init := goodIn_r _ [49, 50, 2, 3, 51, 111] (by decide +kernel) (by decide +kernel)
set_option maxRecDepth 20000 in
theorem gX7_init_X0_init : GoodIn wsX7_init (wsX0_init) := ggX7_init_X0_init
set_option maxRecDepth 20000 in
theorem ggX7_init_X6_init : GoodIn wsX7_init wsX6_init := goodIn_r _ [54, 55, 2, 3, 56, 57, 58, 59, 60, 61, 62, 63, 64, 65, 35, 66, 112, 113, 123, 124] (by decide +kernel) (by decide +kernel)
set_option maxRecDepth 20000 in
theorem gX7_init_X6_init : GoodIn wsX7_init (wsX6_init) := ggX7_init_X6_init
set_option maxRecDepth 20000 in
theorem ggX7_init_X1_init : GoodIn wsX7_init wsX1_init := goodIn_r _ [69, 70, 2, 3, 71, 72, 58, 59, 73, 35, 74, 75, 76, 77, 62, 63, 64, 65, 66, 114, 115, 116, 117, 123, 124] (by decide +kernel) (by decide +kernel)
set_option maxRecDepth 20000 in
theorem gX7_init_X1_init : GoodIn wsX7_init (wsX1_init) := ggX7_init_X1_init
set_option maxRecDepth 20000 in
theorem ggX7_init_X3_init : GoodIn wsX7_init wsX3_init := goodIn_r _ [80, 81, 2, 3, 82, 83, 118, 119] (by decide +kernel) (by decide +kernel)
set_option maxRecDepth 20000 in
theorem gX7_init_X3_init : GoodIn wsX7_init (wsX3_init) := ggX7_init_X3_init
set_option maxRecDepth 20000 in
theorem ggX7_init_X5_init : GoodIn wsX7_init wsX5_init := goodIn_r _ [86, 87, 2, 3, 75, 88, 89, 90, 120, 121, 122] (by decide +kernel) (by decide +kernel)
set_option maxRecDepth 20000 in
theorem gX7_init_X5_init : GoodIn wsX7_init (wsX5_init) := ggX7_init_X5_init
theorem dX7_init_0 : decode cX7_init 0 = .ok (.aload_n 0, 1) := by decide +kernel
theorem dX7_init_1 : decode cX7_init 1 = .ok (.invokespecial 1, 3) := by decide +kernel
theorem dX7_init_4 : decode cX7_init 4 = .ok (.aload_n 0, 1) := by decide +kernel
theorem dX7_init_5 : decode cX7_init 5 = .ok (.new 7, 3) := by decide +kernel
theorem dX7_init_8 : decode cX7_init 8 = .ok (.dup, 1) := by decide +kernel
theorem dX7_init_9 : decode cX7_init 9 = .ok (.invokespecial 9, 3) := by decide +kernel
theorem dX7_init_12 : decode cX7_init 12 = .ok (.putfield 10, 3) := by decide +kernel
theorem dX7_init_15 : decode cX7_init 15 = .ok (.aload_n 0, 1) := by decide +kernel
theorem dX7_init_16 : decode cX7_init 16 = .ok (.new 7, 3) := by decide +kernel
theorem dX7_init_19 : decode cX7_init 19 = .ok (.dup, 1) := by decide +kernel
theorem dX7_init_20 : decode cX7_init 20 = .ok (.invokespecial 9, 3) := by decide +kernel
theorem dX7_init_23 : decode cX7_init 23 = .ok (.putfield 16, 3) := by decide +kernel
theorem dX7_init_26 : decode cX7_init 26 = .ok (.aload_n 0, 1) := by decide +kernel
theorem dX7_init_27 : decode cX7_init 27 = .ok (.new 7, 3) := by decide +kernel
theorem dX7_init_30 : decode cX7_init 30 = .ok (.dup, 1) := by decide +kernel
theorem dX7_init_31 : decode cX7_init 31 = .ok (.invokespecial 9, 3) := by decide +kernel
theorem dX7_init_34 : decode cX7_init 34 = .ok (.putfield 19, 3) := by decide +kernel
theorem dX7_init_37 : decode cX7_init 37 = .ok (.aload_n 0, 1) := by decide +kernel
theorem dX7_init_38 : decode cX7_init 38 = .ok (.new 22, 3) := by decide +kernel
theorem dX7_init_41 : decode cX7_init 41 = .ok (.dup, 1) := by decide +kernel
theorem dX7_init_42 : decode cX7_init 42 = .ok (.aload_n 0, 1) := by decide +kernel
theorem dX7_init_43 : decode cX7_init 43 = .ok (.getfield 10, 3) := by decide +kernel
theorem dX7_init_46 : decode cX7_init 46 = .ok (.invokespecial 24, 3) := by decide +kernel
theorem dX7_init_49 : decode cX7_init 49 = .ok (.putfield 27, 3) := by decide +kernel
theorem dX7_init_52 : decode cX7_init 52 = .ok (.aload_n 0, 1) := by decide +kernel
theorem dX7_init_53 : decode cX7_init 53 = .ok (.new 31, 3) := by decide +kernel
theorem dX7_init_56 : decode cX7_init 56 = .ok (.dup, 1) := by decide +kernel
theorem dX7_init_57 : decode cX7_init 57 = .ok (.aload_n 0, 1) := by decide +kernel
theorem dX7_init_58 : decode cX7_init 58 = .ok (.getfield 10, 3) := by decide +kernel
theorem dX7_init_61 : decode cX7_init 61 = .ok (.invokespecial 33, 3) := by decide +kernel
theorem dX7_init_64 : decode cX7_init 64 = .ok (.putfield 34, 3) := by decide +kernel
theorem dX7_init_67 : decode cX7_init 67 = .ok (.aload_n 0, 1) := by decide +kernel
theorem dX7_init_68 : decode cX7_init 68 = .ok (.new 38, 3) := by decide +kernel
theorem dX7_init_71 : decode cX7_init 71 = .ok (.dup, 1) := by decide +kernel
theorem dX7_init_72 : decode cX7_init 72 = .ok (.aload_n 0, 1) := by decide +kernel
theorem dX7_init_73 : decode cX7_init 73 = .ok (.getfield 10, 3) := by decide +kernel
theorem dX7_init_76 : decode cX7_init 76 = .ok (.invokespecial 40, 3) := by decide +kernel
theorem dX7_init_79 : decode cX7_init 79 = .ok (.putfield 41, 3) := by decide +kernel
theorem dX7_init_82 : decode cX7_init 82 = .ok (.aload_n 0, 1) := by decide +kernel
theorem dX7_init_83 : decode cX7_init 83 = .ok (.new 45, 3) := by decide +kernel
theorem dX7_init_86 : decode cX7_init 86 = .ok (.dup, 1) := by decide +kernel
theorem dX7_init_87 : decode cX7_init 87 = .ok (.new 22, 3) := by decide +kernel
theorem dX7_init_90 : decode cX7_init 90 = .ok (.dup, 1) := by decide +kernel
theorem dX7_init_91 : decode cX7_init 91 = .ok (.aload_n 0, 1) := by decide +kernel
theorem dX7_init_92 : decode cX7_init 92 = .ok (.getfield 16, 3) := by decide +kernel
theorem dX7_init_95 : decode cX7_init 95 = .ok (.invokespecial 24, 3) := by decide +kernel
theorem dX7_init_98 : decode cX7_init 98 = .ok (.invokespecial 47, 3) := by decide +kernel
theorem dX7_init_101 : decode cX7_init 101 = .ok (.putfield 50, 3) := by decide +kernel
theorem dX7_init_104 : decode cX7_init 104 = .ok (.aload_n 0, 1) := by decide +kernel
theorem dX7_init_105 : decode cX7_init 105 = .ok (.iconst 4, 1) := by decide +kernel
theorem dX7_init_106 : decode cX7_init 106 = .ok (.anewarray 54, 3) := by decide +kernel
theorem dX7_init_109 : decode cX7_init 109 = .ok (.putfield 56, 3) := by decide +kernel
theorem dX7_init_112 : decode cX7_init 112 = .ok (.iconst 0, 1) := by decide +kernel
theorem dX7_init_113 : decode cX7_init 113 = .ok (.istore_n 1, 1) := by decide +kernel
theorem dX7_init_114 : decode cX7_init 114 = .ok (.iload_n 1, 1) := by decide +kernel
theorem dX7_init_115 : decode cX7_init 115 = .ok (.iconst 4, 1) := by decide +kernel
theorem dX7_init_116 : decode cX7_init 116 = .ok (.if_icmp .ge 22, 3) := by decide +kernel
theorem dX7_init_119 : decode cX7_init 119 = .ok (.aload_n 0, 1) := by decide +kernel
theorem dX7_init_120 : decode cX7_init 120 = .ok (.getfield 56, 3) := by decide +kernel
theorem dX7_init_123 : decode cX7_init 123 = .ok (.iload_n 1, 1) := by decide +kernel
theorem dX7_init_124 : decode cX7_init 124 = .ok (.new 54, 3) := by decide +kernel
theorem dX7_init_127 : decode cX7_init 127 = .ok (.dup, 1) := by decide +kernel
theorem dX7_init_128 : decode cX7_init 128 = .ok (.invokespecial 60, 3) := by decide +kernel
theorem dX7_init_131 : decode cX7_init 131 = .ok (.aastore, 1) := by decide +kernel
theorem dX7_init_132 : decode cX7_init 132 = .ok (.iinc 1 1, 3) := by decide +kernel
theorem dX7_init_135 : decode cX7_init 135 = .ok (.goto (-21), 3) := by decide +kernel
theorem dX7_init_138 : decode cX7_init 138 = .ok (.aload_n 0, 1) := by decide +kernel
theorem dX7_init_139 : decode cX7_init 139 = .ok (.iconst 0, 1) := by decide +kernel
theorem dX7_init_140 : decode cX7_init 140 = .ok (.putfield 61, 3) := by decide +kernel
theorem dX7_init_143 : decode cX7_init 143 = .ok (.return_, 1) := by decide +kernel
set_option maxRecDepth 20000 in
theorem ggX7_files_X0_addFiles : GoodIn wsX7_files wsX0_addFiles := goodIn_r _ [6, 7, 8, 9, 10, 11, 12, 13, 14, 15, 16, 17, 18, 19, 20, 21, 22, 23, 24, 25, 35, 36, 37, 38, 39, 40, 41, 42, 43, 44, 45, 46] (by decide +kernel) (by decide +kernel)
set_option maxRecDepth 20000 in
theorem gX7_files_X0_addFiles : GoodIn wsX7_files (wsV RX7 65 RX0 yX0_addFiles wsX0_addFiles) := goodIn_app (goodIn_of _ (by decide +kernel)) ggX7_files_X0_addFiles
theorem dX7_files_0 : decode cX7_files 0 = .ok (.aload_n 0, 1) := by decide +kernel
theorem dX7_files_1 : decode cX7_files 1 = .ok (.getfield 27, 3) := by decide +kernel
theorem dX7_files_4 : decode cX7_files 4 = .ok (.iload_n 1, 1) := by decide +kernel
theorem dX7_files_5 : decode cX7_files 5 = .ok (.invokevirtual 65, 3) := by decide +kernel
theorem dX7_files_8 : decode cX7_files 8 = .ok (.ireturn, 1) := by decide +kernel
set_option maxRecDepth 20000 in
theorem ggX7_write_X0_writeSlot : GoodIn wsX7_write wsX0_writeSlot := goodIn_r _ [6, 7, 8, 9, 10, 11, 12, 13, 14, 15, 16, 17, 18, 19, 20, 21, 22, 23, 24, 25, 5, 26, 27, 28, 29, 30, 31, 32, 33, 34, 35, 36, 37, 38, 39, 40, 41, 42, 43, 44, 45, 46, 47, 48, 49, 50, 51, 52, 53, 54, 55, 56, 57, 58, 59, 60, 61, 62, 63, 64, 65, 66, 67, 68, 69, 70, 71, 72, 73, 74, 75, 76, 77, 78, 79, 80, 90, 91, 92, 93, 94, 95, 96, 97, 98, 99, 100, 101] (by decide +kernel) (by decide +kernel)
set_option maxRecDepth 20000 in
theorem gX7_write_X0_writeSlot : GoodIn wsX7_write (wsV RX7 69 RX0 yX0_writeSlot wsX0_writeSlot) := goodIn_app (goodIn_of _ (by decide +kernel)) ggX7_write_X0_writeSlot
theorem dX7_write_0 : decode cX7_write 0 = .ok (.aload_n 0, 1) := by decide +kernel
theorem dX7_write_1 : decode cX7_write 1 = .ok (.getfield 27, 3) := by decide +kernel
theorem dX7_write_4 : decode cX7_write 4 = .ok (.iload_n 1, 1) := by decide +kernel
theorem dX7_write_5 : decode cX7_write 5 = .ok (.iload_n 2, 1) := by decide +kernel
theorem dX7_write_6 : decode cX7_write 6 = .ok (.iload_n 3, 1) := by decide +kernel
theorem dX7_write_7 : decode cX7_write 7 = .ok (.invokevirtual 69, 3) := by decide +kernel
theorem dX7_write_10 : decode cX7_write 10 = .ok (.ireturn, 1) := by decide +kernel
set_option maxRecDepth 20000 in
theorem ggX7_erase_X0_eraseSlot : GoodIn wsX7_erase wsX0_eraseSlot := goodIn_r _ [6, 7, 8, 9, 10, 11, 12, 13, 14, 15, 16, 17, 18, 19, 20, 21, 22, 23, 24, 25, 26, 27, 28, 29, 5, 30, 31, 32, 33, 34, 35, 36, 37, 38, 39, 40, 41, 42, 43, 44, 45, 46, 47, 48, 49, 50, 51, 52, 53, 54, 55, 65, 66, 67, 68, 69, 70, 71, 72, 73, 74, 75, 76] (by decide +kernel) (by decide +kernel)
set_option maxRecDepth 20000 in
theorem gX7_erase_X0_eraseSlot : GoodIn wsX7_erase (wsV RX7 73 RX0 yX0_eraseSlot wsX0_eraseSlot) := goodIn_app (goodIn_of _ (by decide +kernel)) ggX7_erase_X0_eraseSlot
theorem dX7_erase_0 : decode cX7_erase 0 = .ok (.aload_n 0, 1) := by decide +kernel
theorem dX7_erase_1 : decode cX7_erase 1 = .ok (.getfield 27, 3) := by decide +kernel
theorem dX7_erase_4 : decode cX7_erase 4 = .ok (.iload_n 1, 1) := by decide +kernel
theorem dX7_erase_5 : decode cX7_erase 5 = .ok (.iload_n 2, 1) := by decide +kernel
theorem dX7_erase_6 : decode cX7_erase 6 = .ok (.invokevirtual 73, 3) := by decide +kernel
theorem dX7_erase_9 : decode cX7_erase 9 = .ok (.ireturn, 1) := by decide +kernel
set_option maxRecDepth 20000 in
theorem ggX7_snap_X0_addSnapshot : GoodIn wsX7_snap wsX0_addSnapshot := goodIn_r _ [6, 7, 8, 9, 10, 11, 12, 13, 14, 15, 16, 17, 18, 19, 20, 21, 22, 23, 24, 25, 26, 27, 28, 29, 30, 31, 32, 33, 34, 35, 36, 37, 38, 39, 40, 41, 42, 43, 44, 45, 46, 47, 48, 49, 50, 51, 52, 53, 54, 55, 56, 57, 58, 59, 60, 61, 62, 63, 64, 65, 66, 67, 77, 78, 79, 80, 81, 82, 83, 84, 85, 86, 87, 88] (by decide +kernel) (by decide +kernel)
set_option maxRecDepth 20000 in
theorem gX7_snap_X0_addSnapshot : GoodIn wsX7_snap (wsV RX7 77 RX0 yX0_addSnapshot wsX0_addSnapshot) := goodIn_app (goodIn_of _ (by decide +kernel)) ggX7_snap_X0_addSnapshot
theorem dX7_snap_0 : decode cX7_snap 0 = .ok (.aload_n 0, 1) := by decide +kernel
theorem dX7_snap_1 : decode cX7_snap 1 = .ok (.getfield 27, 3) := by decide +kernel
theorem dX7_snap_4 : decode cX7_snap 4 = .ok (.iload_n 1, 1) := by decide +kernel
theorem dX7_snap_5 : decode cX7_snap 5 = .ok (.iload_n 2, 1) := by decide +kernel
theorem dX7_snap_6 : decode cX7_snap 6 = .ok (.invokevirtual 77, 3) := by decide +kernel
theorem dX7_snap_9 : decode cX7_snap 9 = .ok (.ireturn, 1) := by decide +kernel
set_option maxRecDepth 20000 in
theorem ggX7_tag_X0_changeTags : GoodIn wsX7_tag wsX0_changeTags := goodIn_r _ [6, 7, 8, 9, 10, 11, 12, 13, 14, 15, 16, 17, 18, 19, 20, 21, 22, 23, 24, 25, 26, 27, 28, 29, 30, 40, 41, 42, 43, 44, 45, 46, 47, 48, 49, 50, 51] (by decide +kernel) (by decide +kernel)
set_option maxRecDepth 20000 in
theorem gX7_tag_X0_changeTags : GoodIn wsX7_tag (wsV RX7 80 RX0 yX0_changeTags wsX0_changeTags) := goodIn_app (goodIn_of _ (by decide +kernel)) ggX7_tag_X0_changeTags
theorem dX7_tag_0 : decode cX7_tag 0 = .ok (.aload_n 0, 1) := by decide +kernel
theorem dX7_tag_1 : decode cX7_tag 1 = .ok (.getfield 27, 3) := by decide +kernel
theorem dX7_tag_4 : decode cX7_tag 4 = .ok (.iload_n 1, 1) := by decide +kernel
theorem dX7_tag_5 : decode cX7_tag 5 = .ok (.iload_n 2, 1) := by decide +kernel
theorem dX7_tag_6 : decode cX7_tag 6 = .ok (.invokevirtual 80, 3) := by decide +kernel
theorem dX7_tag_9 : decode cX7_tag 9 = .ok (.ireturn, 1) := by decide +kernel
set_option maxRecDepth 20000 in
theorem ggX7_mark_X0_addBookmark : GoodIn wsX7_mark wsX0_addBookmark := goodIn_r _ [6, 7, 8, 9, 10, 11, 12, 13, 14, 15, 16, 17, 18, 19, 20, 21, 22, 23, 24, 25, 26, 27, 28, 29, 30, 40, 41, 42, 43, 44, 45, 46, 47, 48, 49, 50, 51] (by decide +kernel) (by decide +kernel)
set_option maxRecDepth 20000 in
theorem gX7_mark_X0_addBookmark : GoodIn wsX7_mark (wsV RX7 83 RX0 yX0_addBookmark wsX0_addBookmark) := goodIn_app (goodIn_of _ (by decide +kernel)) ggX7_mark_X0_addBookmark
theorem dX7_mark_0 : decode cX7_mark 0 = .ok (.aload_n 0, 1) := by decide +kernel
theorem dX7_mark_1 : decode cX7_mark 1 = .ok (.getfield 27, 3) := by decide +kernel
theorem dX7_mark_4 : decode cX7_mark 4 = .ok (.iload_n 1, 1) := by decide +kernel
theorem dX7_mark_5 : decode cX7_mark 5 = .ok (.invokevirtual 83, 3) := by decide +kernel
theorem dX7_mark_8 : decode cX7_mark 8 = .ok (.ireturn, 1) := by decide +kernel
set_option maxRecDepth 20000 in
theorem ggX7_remove_X0_removeThing : GoodIn wsX7_remove wsX0_removeThing := goodIn_r _ [6, 7, 8, 9, 10, 11, 12, 13, 14, 15, 16, 17, 18, 19, 20, 21, 22, 23, 24, 25, 26, 27, 28, 29, 30, 31, 32, 33, 34, 35, 36, 37, 38, 39, 5, 40, 41, 42, 43, 44, 45, 46, 47, 48, 49, 50, 51, 52, 53, 54, 55, 56, 57, 58, 59, 60, 61, 62, 63, 64, 65, 66, 67, 68, 69, 70, 71, 72, 73, 74, 75, 76, 77, 78, 79, 80, 81, 82, 83, 84, 85, 86, 87, 88, 89, 90, 91, 101, 102, 103, 104, 105, 106, 107, 108, 109, 110, 111, 112] (by decide +kernel) (by decide +kernel)
set_option maxRecDepth 20000 in
theorem gX7_remove_X0_removeThing : GoodIn wsX7_remove (wsV RX7 86 RX0 yX0_removeThing wsX0_removeThing) := goodIn_app (goodIn_of _ (by decide +kernel)) ggX7_remove_X0_removeThing
theorem dX7_remove_0 : decode cX7_remove 0 = .ok (.aload_n 0, 1) := by decide +kernel
theorem dX7_remove_1 : decode cX7_remove 1 = .ok (.getfield 27, 3) := by decide +kernel
theorem dX7_remove_4 : decode cX7_remove 4 = .ok (.iload_n 1, 1) := by decide +kernel
theorem dX7_remove_5 : decode cX7_remove 5 = .ok (.invokevirtual 86, 3) := by decide +kernel
theorem dX7_remove_8 : decode cX7_remove 8 = .ok (.ireturn, 1) := by decide +kernel
set_option maxRecDepth 20000 in
theorem ggX7_fork_X0_addFork : GoodIn wsX7_fork wsX0_addFork := goodIn_r _ [6, 7, 8, 9, 10, 11, 12, 13, 14, 15, 16, 17, 18, 19, 20, 21, 22, 23, 24, 25, 26, 27, 28, 29, 30, 31, 32, 33, 34, 35, 36, 37, 38, 39, 40, 41, 42, 43, 44, 45, 46, 47, 48, 49, 59, 60, 61, 62, 63, 64, 65, 66, 67, 68, 69, 70] (by decide +kernel) (by decide +kernel)
set_option maxRecDepth 20000 in
theorem gX7_fork_X0_addFork : GoodIn wsX7_fork (wsV RX7 89 RX0 yX0_addFork wsX0_addFork) := goodIn_app (goodIn_of _ (by decide +kernel)) ggX7_fork_X0_addFork
theorem dX7_fork_0 : decode cX7_fork 0 = .ok (.aload_n 0, 1) := by decide +kernel
theorem dX7_fork_1 : decode cX7_fork 1 = .ok (.getfield 27, 3) := by decide +kernel
theorem dX7_fork_4 : decode cX7_fork 4 = .ok (.iload_n 1, 1) := by decide +kernel
theorem dX7_fork_5 : decode cX7_fork 5 = .ok (.invokevirtual 89, 3) := by decide +kernel
theorem dX7_fork_8 : decode cX7_fork 8 = .ok (.ireturn, 1) := by decide +kernel
set_option maxRecDepth 20000 in
theorem ggX7_promote_X0_promoteFiles : GoodIn wsX7_promote wsX0_promoteFiles := goodIn_r _ [6, 7, 8, 9, 10, 11, 12, 13, 14, 15, 16, 17, 18, 19, 20, 21, 22, 23, 24, 25, 26, 27, 28, 29, 30, 31, 32, 33, 34, 35, 36, 37, 38, 39, 40, 41, 42, 43, 44, 45, 46, 47, 48, 49, 50, 51, 52, 62, 63, 64, 65, 66, 67, 68, 69, 70, 71, 72, 73] (by decide +kernel) (by decide +kernel)
set_option maxRecDepth 20000 in
theorem gX7_promote_X0_promoteFiles : GoodIn wsX7_promote (wsV RX7 92 RX0 yX0_promoteFiles wsX0_promoteFiles) := goodIn_app (goodIn_of _ (by decide +kernel)) ggX7_promote_X0_promoteFiles
theorem dX7_promote_0 : decode cX7_promote 0 = .ok (.aload_n 0, 1) := by decide +kernel
theorem dX7_promote_1 : decode cX7_promote 1 = .ok (.getfield 27, 3) := by decide +kernel
theorem dX7_promote_4 : decode cX7_promote 4 = .ok (.iload_n 1, 1) := by decide +kernel
theorem dX7_promote_5 : decode cX7_promote 5 = .ok (.invokevirtual 92, 3) := by decide +kernel
theorem dX7_promote_8 : decode cX7_promote 8 = .ok (.ireturn, 1) := by decide +kernel
set_option maxRecDepth 20000 in
theorem ggX7_rollback_X0_rollFilesBack : GoodIn wsX7_rollback wsX0_rollFilesBack := goodIn_r _ [6, 7, 8, 9, 10, 11, 12, 13, 14, 15, 16, 17, 18, 19, 20, 21, 22, 23, 24, 25, 26, 27, 28, 29, 5, 30, 31, 32, 33, 34, 35, 36, 37, 38, 39, 40, 41, 42, 43, 44, 45, 46, 47, 48, 49, 50, 51, 52, 53, 54, 55, 56, 57, 58, 59, 60, 61, 71, 72, 73, 74, 75, 76, 77, 78, 79, 80, 81, 82] (by decide +kernel) (by decide +kernel)
set_option maxRecDepth 20000 in
theorem gX7_rollback_X0_rollFilesBack : GoodIn wsX7_rollback (wsV RX7 95 RX0 yX0_rollFilesBack wsX0_rollFilesBack) := goodIn_app (goodIn_of _ (by decide +kernel)) ggX7_rollback_X0_rollFilesBack
theorem dX7_rollback_0 : decode cX7_rollback 0 = .ok (.aload_n 0, 1) := by decide +kernel
theorem dX7_rollback_1 : decode cX7_rollback 1 = .ok (.getfield 27, 3) := by decide +kernel
theorem dX7_rollback_4 : decode cX7_rollback 4 = .ok (.iload_n 1, 1) := by decide +kernel
theorem dX7_rollback_5 : decode cX7_rollback 5 = .ok (.invokevirtual 95, 3) := by decide +kernel
theorem dX7_rollback_8 : decode cX7_rollback 8 = .ok (.ireturn, 1) := by decide +kernel
set_option maxRecDepth 20000 in
theorem ggX7_tick_X0_passTime : GoodIn wsX7_tick wsX0_passTime := goodIn_r _ [6, 7, 8, 9, 10, 11, 12, 13, 14, 15, 16, 17, 18, 28, 29, 30, 31, 32, 33, 34, 35, 36, 37, 38, 39] (by decide +kernel) (by decide +kernel)
set_option maxRecDepth 20000 in
theorem gX7_tick_X0_passTime : GoodIn wsX7_tick (wsV RX7 98 RX0 yX0_passTime wsX0_passTime) := goodIn_app (goodIn_of _ (by decide +kernel)) ggX7_tick_X0_passTime
theorem dX7_tick_0 : decode cX7_tick 0 = .ok (.aload_n 0, 1) := by decide +kernel
theorem dX7_tick_1 : decode cX7_tick 1 = .ok (.getfield 27, 3) := by decide +kernel
theorem dX7_tick_4 : decode cX7_tick 4 = .ok (.invokevirtual 98, 3) := by decide +kernel
theorem dX7_tick_7 : decode cX7_tick 7 = .ok (.ireturn, 1) := by decide +kernel
set_option maxRecDepth 20000 in
theorem ggX7_told_X6_tellThing : GoodIn wsX7_told wsX6_tellThing := goodIn_r _ [6, 7, 8, 9, 10, 11, 12, 13, 14, 15, 16, 17, 18, 19, 20, 21, 22, 23, 24, 25, 26, 27, 28, 29, 30, 31, 32, 33, 34, 35, 36, 37, 38, 39, 40, 41, 42, 43, 44, 45, 46, 47, 48, 49, 50, 51, 52, 53, 54, 55, 56, 57, 5, 58, 59, 60, 61, 62, 63, 64, 65, 66, 67, 68, 69, 70, 71, 72, 73, 74, 84, 85, 86, 87, 88, 89, 90, 91, 92, 93, 94, 95, 96] (by decide +kernel) (by decide +kernel)
set_option maxRecDepth 20000 in
theorem gX7_told_X6_tellThing : GoodIn wsX7_told (wsV RX7 102 RX6 yX6_tellThing wsX6_tellThing) := goodIn_app (goodIn_of _ (by decide +kernel)) ggX7_told_X6_tellThing
theorem dX7_told_0 : decode cX7_told 0 = .ok (.aload_n 0, 1) := by decide +kernel
theorem dX7_told_1 : decode cX7_told 1 = .ok (.getfield 34, 3) := by decide +kernel
theorem dX7_told_4 : decode cX7_told 4 = .ok (.iload_n 1, 1) := by decide +kernel
theorem dX7_told_5 : decode cX7_told 5 = .ok (.iload_n 2, 1) := by decide +kernel
theorem dX7_told_6 : decode cX7_told 6 = .ok (.invokevirtual 102, 3) := by decide +kernel
theorem dX7_told_9 : decode cX7_told 9 = .ok (.ireturn, 1) := by decide +kernel
set_option maxRecDepth 20000 in
theorem ggX7_slot_X6_tellSlot : GoodIn wsX7_slot wsX6_tellSlot := goodIn_r _ [6, 7, 8, 9, 10, 11, 12, 13, 14, 15, 16, 17, 18, 19, 20, 21, 22, 23, 24, 25, 26, 36, 37, 38, 39, 40, 41, 42, 43, 44, 45, 46, 47, 48] (by decide +kernel) (by decide +kernel)
set_option maxRecDepth 20000 in
theorem gX7_slot_X6_tellSlot : GoodIn wsX7_slot (wsV RX7 105 RX6 yX6_tellSlot wsX6_tellSlot) := goodIn_app (goodIn_of _ (by decide +kernel)) ggX7_slot_X6_tellSlot
theorem dX7_slot_0 : decode cX7_slot 0 = .ok (.aload_n 0, 1) := by decide +kernel
theorem dX7_slot_1 : decode cX7_slot 1 = .ok (.getfield 34, 3) := by decide +kernel
theorem dX7_slot_4 : decode cX7_slot 4 = .ok (.iload_n 1, 1) := by decide +kernel
theorem dX7_slot_5 : decode cX7_slot 5 = .ok (.iload_n 2, 1) := by decide +kernel
theorem dX7_slot_6 : decode cX7_slot 6 = .ok (.invokevirtual 105, 3) := by decide +kernel
theorem dX7_slot_9 : decode cX7_slot 9 = .ok (.ireturn, 1) := by decide +kernel
set_option maxRecDepth 20000 in
theorem ggX7_block_X6_tellBlock : GoodIn wsX7_block wsX6_tellBlock := goodIn_r _ [6, 7, 8, 9, 10, 11, 12, 13, 14, 15, 16, 17, 18, 19, 20, 21, 22, 23, 24, 25, 26, 27, 28, 29, 30, 31, 32, 33, 34, 35, 36, 37, 38, 39, 40, 41, 42, 52, 53, 54, 55, 56, 57, 58, 59, 60, 61, 62, 63, 64, 65, 66] (by decide +kernel) (by decide +kernel)
set_option maxRecDepth 20000 in
theorem gX7_block_X6_tellBlock : GoodIn wsX7_block (wsV RX7 108 RX6 yX6_tellBlock wsX6_tellBlock) := goodIn_app (goodIn_of _ (by decide +kernel)) ggX7_block_X6_tellBlock
theorem dX7_block_0 : decode cX7_block 0 = .ok (.aload_n 0, 1) := by decide +kernel
theorem dX7_block_1 : decode cX7_block 1 = .ok (.getfield 34, 3) := by decide +kernel
theorem dX7_block_4 : decode cX7_block 4 = .ok (.iload_n 1, 1) := by decide +kernel
theorem dX7_block_5 : decode cX7_block 5 = .ok (.iload_n 2, 1) := by decide +kernel
theorem dX7_block_6 : decode cX7_block 6 = .ok (.invokevirtual 108, 3) := by decide +kernel
theorem dX7_block_9 : decode cX7_block 9 = .ok (.ireturn, 1) := by decide +kernel
set_option maxRecDepth 20000 in
theorem ggX7_taken_X6_tellTaken : GoodIn wsX7_taken wsX6_tellTaken := goodIn_r _ [6, 7, 8, 9, 10, 11, 12, 13, 14, 15, 16, 17, 18, 19, 20, 21, 22, 23, 24, 25, 26, 36, 37, 38, 39, 40, 41, 42, 43, 44, 45, 46, 47, 48] (by decide +kernel) (by decide +kernel)
set_option maxRecDepth 20000 in
theorem gX7_taken_X6_tellTaken : GoodIn wsX7_taken (wsV RX7 111 RX6 yX6_tellTaken wsX6_tellTaken) := goodIn_app (goodIn_of _ (by decide +kernel)) ggX7_taken_X6_tellTaken
theorem dX7_taken_0 : decode cX7_taken 0 = .ok (.aload_n 0, 1) := by decide +kernel
theorem dX7_taken_1 : decode cX7_taken 1 = .ok (.getfield 34, 3) := by decide +kernel
theorem dX7_taken_4 : decode cX7_taken 4 = .ok (.iload_n 1, 1) := by decide +kernel
theorem dX7_taken_5 : decode cX7_taken 5 = .ok (.iload_n 2, 1) := by decide +kernel
theorem dX7_taken_6 : decode cX7_taken 6 = .ok (.invokevirtual 111, 3) := by decide +kernel
theorem dX7_taken_9 : decode cX7_taken 9 = .ok (.ireturn, 1) := by decide +kernel
set_option maxRecDepth 20000 in
theorem ggX7_dead_X6_tellDead : GoodIn wsX7_dead wsX6_tellDead := goodIn_r _ [6, 7, 8, 9, 10, 11, 12, 13, 14, 15, 16, 17, 18, 19, 20, 21, 22, 23, 24, 5, 25, 26, 27, 28, 29, 30, 31, 32, 33, 34, 35, 36, 37, 38, 39, 40, 41, 42, 43, 44, 45, 46, 47, 48, 58, 59, 60, 61, 62, 63, 64, 65, 66, 67, 68, 69, 70] (by decide +kernel) (by decide +kernel)
set_option maxRecDepth 20000 in
theorem gX7_dead_X6_tellDead : GoodIn wsX7_dead (wsV RX7 114 RX6 yX6_tellDead wsX6_tellDead) := goodIn_app (goodIn_of _ (by decide +kernel)) ggX7_dead_X6_tellDead
theorem dX7_dead_0 : decode cX7_dead 0 = .ok (.aload_n 0, 1) := by decide +kernel
theorem dX7_dead_1 : decode cX7_dead 1 = .ok (.getfield 34, 3) := by decide +kernel
theorem dX7_dead_4 : decode cX7_dead 4 = .ok (.iload_n 1, 1) := by decide +kernel
theorem dX7_dead_5 : decode cX7_dead 5 = .ok (.iload_n 2, 1) := by decide +kernel
theorem dX7_dead_6 : decode cX7_dead 6 = .ok (.invokevirtual 114, 3) := by decide +kernel
theorem dX7_dead_9 : decode cX7_dead 9 = .ok (.ireturn, 1) := by decide +kernel
set_option maxRecDepth 20000 in
theorem ggX7_deadList_X6_sizeOfDeadList : GoodIn wsX7_deadList wsX6_sizeOfDeadList := goodIn_r _ [6, 7, 8, 9, 10, 11, 12, 13, 14, 15, 16, 17, 18, 19, 20, 21, 22, 23, 24, 25, 26, 27, 28, 29, 30, 31, 32, 33, 34, 35, 36, 5, 37, 38, 39, 40, 41, 42, 43, 44, 45, 46, 47, 48, 49, 50, 51, 52, 62, 63, 64, 65, 66, 67, 68, 69, 70, 71, 72, 73, 74] (by decide +kernel) (by decide +kernel)
set_option maxRecDepth 20000 in
theorem gX7_deadList_X6_sizeOfDeadList : GoodIn wsX7_deadList (wsV RX7 117 RX6 yX6_sizeOfDeadList wsX6_sizeOfDeadList) := goodIn_app (goodIn_of _ (by decide +kernel)) ggX7_deadList_X6_sizeOfDeadList
theorem dX7_deadList_0 : decode cX7_deadList 0 = .ok (.aload_n 0, 1) := by decide +kernel
theorem dX7_deadList_1 : decode cX7_deadList 1 = .ok (.getfield 34, 3) := by decide +kernel
theorem dX7_deadList_4 : decode cX7_deadList 4 = .ok (.iload_n 1, 1) := by decide +kernel
theorem dX7_deadList_5 : decode cX7_deadList 5 = .ok (.iload_n 2, 1) := by decide +kernel
theorem dX7_deadList_6 : decode cX7_deadList 6 = .ok (.invokevirtual 117, 3) := by decide +kernel
theorem dX7_deadList_9 : decode cX7_deadList 9 = .ok (.lreturn, 1) := by decide +kernel
set_option maxRecDepth 20000 in
theorem ggX7_space_X4_isHolder : GoodIn wsX7_space wsX4_isHolder := goodIn_r _ [7, 8, 9, 10, 6, 11, 12, 36, 37, 38, 39, 40, 41, 42, 43, 44, 45, 46] (by decide +kernel) (by decide +kernel)
set_option maxRecDepth 20000 in
theorem gX7_space_X4_isHolder : GoodIn wsX7_space (wsV RX7 121 RX4 yX4_isHolder wsX4_isHolder) := goodIn_app (goodIn_of _ (by decide +kernel)) ggX7_space_X4_isHolder
set_option maxRecDepth 20000 in
theorem ggX7_space_X4_spaceOf : GoodIn wsX7_space wsX4_spaceOf := goodIn_r _ [16, 17, 18, 19, 6, 20, 21, 22, 23, 24, 25, 26, 36, 37, 38, 39, 40, 41, 42, 43, 44, 45, 46] (by decide +kernel) (by decide +kernel)
set_option maxRecDepth 20000 in
theorem gX7_space_X4_spaceOf : GoodIn wsX7_space (wsV RX7 125 RX4 yX4_spaceOf wsX4_spaceOf) := goodIn_app (goodIn_of _ (by decide +kernel)) ggX7_space_X4_spaceOf
theorem dX7_space_0 : decode cX7_space 0 = .ok (.aload_n 0, 1) := by decide +kernel
theorem dX7_space_1 : decode cX7_space 1 = .ok (.getfield 10, 3) := by decide +kernel
theorem dX7_space_4 : decode cX7_space 4 = .ok (.iload_n 1, 1) := by decide +kernel
theorem dX7_space_5 : decode cX7_space 5 = .ok (.invokevirtual 121, 3) := by decide +kernel
theorem dX7_space_8 : decode cX7_space 8 = .ok (.ifCond .eq 14, 3) := by decide +kernel
theorem dX7_space_11 : decode cX7_space 11 = .ok (.aload_n 0, 1) := by decide +kernel
theorem dX7_space_12 : decode cX7_space 12 = .ok (.getfield 10, 3) := by decide +kernel
theorem dX7_space_15 : decode cX7_space 15 = .ok (.iload_n 1, 1) := by decide +kernel
theorem dX7_space_16 : decode cX7_space 16 = .ok (.invokevirtual 125, 3) := by decide +kernel
theorem dX7_space_19 : decode cX7_space 19 = .ok (.goto 6, 3) := by decide +kernel
theorem dX7_space_22 : decode cX7_space 22 = .ok (.ldc2_w 129, 3) := by decide +kernel
theorem dX7_space_25 : decode cX7_space 25 = .ok (.lreturn, 1) := by decide +kernel
set_option maxRecDepth 20000 in
theorem ggX7_alone_X4_isHolder : GoodIn wsX7_alone wsX4_isHolder := goodIn_r _ [8, 9, 10, 11, 7, 12, 13, 51, 52, 53, 54, 55, 56, 57, 58, 59, 60, 61] (by decide +kernel) (by decide +kernel)
set_option maxRecDepth 20000 in
theorem gX7_alone_X4_isHolder : GoodIn wsX7_alone (wsV RX7 121 RX4 yX4_isHolder wsX4_isHolder) := goodIn_app (goodIn_of _ (by decide +kernel)) ggX7_alone_X4_isHolder
set_option maxRecDepth 20000 in
theorem ggX7_alone_X6_sizeHeldOnlyBy : GoodIn wsX7_alone wsX6_sizeHeldOnlyBy := goodIn_r _ [18, 19, 20, 21, 22, 23, 24, 25, 26, 27, 28, 29, 30, 7, 31, 32, 33, 34, 35, 36, 37, 38, 39, 40, 41, 62, 63, 64, 65, 51, 52, 53, 54, 55, 56, 57, 58, 59, 60, 61] (by decide +kernel) (by decide +kernel)
set_option maxRecDepth 20000 in
theorem gX7_alone_X6_sizeHeldOnlyBy : GoodIn wsX7_alone (wsV RX7 131 RX6 yX6_sizeHeldOnlyBy wsX6_sizeHeldOnlyBy) := goodIn_app (goodIn_of _ (by decide +kernel)) ggX7_alone_X6_sizeHeldOnlyBy
theorem dX7_alone_0 : decode cX7_alone 0 = .ok (.aload_n 0, 1) := by decide +kernel
theorem dX7_alone_1 : decode cX7_alone 1 = .ok (.getfield 10, 3) := by decide +kernel
theorem dX7_alone_4 : decode cX7_alone 4 = .ok (.iload_n 1, 1) := by decide +kernel
theorem dX7_alone_5 : decode cX7_alone 5 = .ok (.invokevirtual 121, 3) := by decide +kernel
theorem dX7_alone_8 : decode cX7_alone 8 = .ok (.ifCond .eq 16, 3) := by decide +kernel
theorem dX7_alone_11 : decode cX7_alone 11 = .ok (.aload_n 0, 1) := by decide +kernel
theorem dX7_alone_12 : decode cX7_alone 12 = .ok (.getfield 34, 3) := by decide +kernel
theorem dX7_alone_15 : decode cX7_alone 15 = .ok (.iconst 1, 1) := by decide +kernel
theorem dX7_alone_16 : decode cX7_alone 16 = .ok (.iload_n 1, 1) := by decide +kernel
theorem dX7_alone_17 : decode cX7_alone 17 = .ok (.ishl, 1) := by decide +kernel
theorem dX7_alone_18 : decode cX7_alone 18 = .ok (.invokevirtual 131, 3) := by decide +kernel
theorem dX7_alone_21 : decode cX7_alone 21 = .ok (.goto 6, 3) := by decide +kernel
theorem dX7_alone_24 : decode cX7_alone 24 = .ok (.ldc2_w 129, 3) := by decide +kernel
theorem dX7_alone_27 : decode cX7_alone 27 = .ok (.lreturn, 1) := by decide +kernel
set_option maxRecDepth 20000 in
theorem ggX7_range_X6_sizeOfRange : GoodIn wsX7_range wsX6_sizeOfRange := goodIn_r _ [6, 7, 8, 9, 10, 11, 12, 13, 14, 15, 16, 17, 18, 19, 20, 21, 5, 22, 23, 24, 25, 26, 27, 28, 29, 30, 31, 32, 33, 34, 35, 36, 37, 38, 39, 40, 41, 42, 43, 44, 45, 46, 47, 48, 49, 59, 60, 61, 62, 63, 64, 65, 66, 67, 68, 69, 70, 71, 72, 73] (by decide +kernel) (by decide +kernel)
set_option maxRecDepth 20000 in
theorem gX7_range_X6_sizeOfRange : GoodIn wsX7_range (wsV RX7 134 RX6 yX6_sizeOfRange wsX6_sizeOfRange) := goodIn_app (goodIn_of _ (by decide +kernel)) ggX7_range_X6_sizeOfRange
theorem dX7_range_0 : decode cX7_range 0 = .ok (.aload_n 0, 1) := by decide +kernel
theorem dX7_range_1 : decode cX7_range 1 = .ok (.getfield 34, 3) := by decide +kernel
theorem dX7_range_4 : decode cX7_range 4 = .ok (.iload_n 1, 1) := by decide +kernel
theorem dX7_range_5 : decode cX7_range 5 = .ok (.iload_n 2, 1) := by decide +kernel
theorem dX7_range_6 : decode cX7_range 6 = .ok (.invokevirtual 134, 3) := by decide +kernel
theorem dX7_range_9 : decode cX7_range 9 = .ok (.lreturn, 1) := by decide +kernel
set_option maxRecDepth 20000 in
theorem ggX7_since_X6_sizeSince : GoodIn wsX7_since wsX6_sizeSince := goodIn_r _ [6, 7, 8, 9, 10, 11, 12, 13, 14, 15, 16, 17, 18, 19, 20, 21, 22, 23, 24, 25, 26, 27, 28, 29, 30, 31, 32, 33, 34, 35, 36, 37, 38, 39, 49, 50, 51, 52, 53, 54, 55, 56, 57, 58, 59, 60, 61] (by decide +kernel) (by decide +kernel)
set_option maxRecDepth 20000 in
theorem gX7_since_X6_sizeSince : GoodIn wsX7_since (wsV RX7 137 RX6 yX6_sizeSince wsX6_sizeSince) := goodIn_app (goodIn_of _ (by decide +kernel)) ggX7_since_X6_sizeSince
theorem dX7_since_0 : decode cX7_since 0 = .ok (.aload_n 0, 1) := by decide +kernel
theorem dX7_since_1 : decode cX7_since 1 = .ok (.getfield 34, 3) := by decide +kernel
theorem dX7_since_4 : decode cX7_since 4 = .ok (.iload_n 1, 1) := by decide +kernel
theorem dX7_since_5 : decode cX7_since 5 = .ok (.iload_n 2, 1) := by decide +kernel
theorem dX7_since_6 : decode cX7_since 6 = .ok (.invokevirtual 137, 3) := by decide +kernel
theorem dX7_since_9 : decode cX7_since 9 = .ok (.lreturn, 1) := by decide +kernel
set_option maxRecDepth 20000 in
theorem ggX7_common_X6_sizeInBoth : GoodIn wsX7_common wsX6_sizeInBoth := goodIn_r _ [6, 7, 8, 9, 10, 11, 12, 13, 14, 15, 16, 17, 18, 19, 20, 21, 22, 23, 24, 25, 26, 27, 28, 38, 39, 40, 41, 42, 43, 44, 45, 46, 47, 48, 49, 50] (by decide +kernel) (by decide +kernel)
set_option maxRecDepth 20000 in
theorem gX7_common_X6_sizeInBoth : GoodIn wsX7_common (wsV RX7 140 RX6 yX6_sizeInBoth wsX6_sizeInBoth) := goodIn_app (goodIn_of _ (by decide +kernel)) ggX7_common_X6_sizeInBoth
theorem dX7_common_0 : decode cX7_common 0 = .ok (.aload_n 0, 1) := by decide +kernel
theorem dX7_common_1 : decode cX7_common 1 = .ok (.getfield 34, 3) := by decide +kernel
theorem dX7_common_4 : decode cX7_common 4 = .ok (.iload_n 1, 1) := by decide +kernel
theorem dX7_common_5 : decode cX7_common 5 = .ok (.iload_n 2, 1) := by decide +kernel
theorem dX7_common_6 : decode cX7_common 6 = .ok (.invokevirtual 140, 3) := by decide +kernel
theorem dX7_common_9 : decode cX7_common 9 = .ok (.lreturn, 1) := by decide +kernel
set_option maxRecDepth 20000 in
theorem ggX7_most_X4_isFiles : GoodIn wsX7_most wsX4_isFiles := goodIn_r _ [8, 9, 10, 11, 7, 12, 13, 114, 115, 116, 117, 118, 119, 120, 121, 122, 123, 124] (by decide +kernel) (by decide +kernel)
set_option maxRecDepth 20000 in
theorem gX7_most_X4_isFiles : GoodIn wsX7_most (wsV RX7 143 RX4 yX4_isFiles wsX4_isFiles) := goodIn_app (goodIn_of _ (by decide +kernel)) ggX7_most_X4_isFiles
set_option maxRecDepth 20000 in
theorem ggX7_most_X1_mostFreed : GoodIn wsX7_most wsX1_mostFreed := goodIn_r _ [18, 19, 20, 21, 22, 23, 24, 25, 26, 17, 27, 28, 29, 30, 31, 32, 33, 34, 35, 36, 37, 38, 39, 40, 7, 41, 42, 43, 44, 45, 46, 47, 48, 49, 50, 51, 52, 53, 54, 55, 56, 57, 58, 59, 9, 10, 11, 12, 13, 60, 61, 62, 63, 64, 65, 66, 67, 68, 69, 70, 71, 72, 73, 74, 75, 76, 77, 78, 79, 80, 81, 82, 83, 84, 85, 86, 87, 88, 89, 90, 91, 92, 93, 94, 95, 96, 97, 98, 99, 100, 101, 102, 103, 104, 125, 126, 127, 128, 114, 115, 116, 117, 118, 119, 120, 121, 122, 123, 124, 129, 130] (by decide +kernel) (by decide +kernel)
set_option maxRecDepth 20000 in
theorem gX7_most_X1_mostFreed : GoodIn wsX7_most (wsV RX7 146 RX1 yX1_mostFreed wsX1_mostFreed) := goodIn_app (goodIn_of _ (by decide +kernel)) ggX7_most_X1_mostFreed
theorem dX7_most_0 : decode cX7_most 0 = .ok (.iload_n 2, 1) := by decide +kernel
theorem dX7_most_1 : decode cX7_most 1 = .ok (.ifCond .lt 20, 3) := by decide +kernel
theorem dX7_most_4 : decode cX7_most 4 = .ok (.iload_n 2, 1) := by decide +kernel
theorem dX7_most_5 : decode cX7_most 5 = .ok (.bipush 8, 2) := by decide +kernel
theorem dX7_most_7 : decode cX7_most 7 = .ok (.if_icmp .gt 14, 3) := by decide +kernel
theorem dX7_most_10 : decode cX7_most 10 = .ok (.aload_n 0, 1) := by decide +kernel
theorem dX7_most_11 : decode cX7_most 11 = .ok (.getfield 10, 3) := by decide +kernel
theorem dX7_most_14 : decode cX7_most 14 = .ok (.iload_n 1, 1) := by decide +kernel
theorem dX7_most_15 : decode cX7_most 15 = .ok (.invokevirtual 143, 3) := by decide +kernel
theorem dX7_most_18 : decode cX7_most 18 = .ok (.ifCond .ne 7, 3) := by decide +kernel
theorem dX7_most_21 : decode cX7_most 21 = .ok (.ldc2_w 129, 3) := by decide +kernel
theorem dX7_most_24 : decode cX7_most 24 = .ok (.lreturn, 1) := by decide +kernel
theorem dX7_most_25 : decode cX7_most 25 = .ok (.aload_n 0, 1) := by decide +kernel
theorem dX7_most_26 : decode cX7_most 26 = .ok (.getfield 41, 3) := by decide +kernel
theorem dX7_most_29 : decode cX7_most 29 = .ok (.iload_n 1, 1) := by decide +kernel
theorem dX7_most_30 : decode cX7_most 30 = .ok (.iload_n 2, 1) := by decide +kernel
theorem dX7_most_31 : decode cX7_most 31 = .ok (.invokevirtual 146, 3) := by decide +kernel
theorem dX7_most_34 : decode cX7_most 34 = .ok (.lreturn, 1) := by decide +kernel
set_option maxRecDepth 20000 in
theorem ggX7_fewest_X4_refusalAs : GoodIn wsX7_fewest wsX4_refusalAs := goodIn_r _ [7, 8, 9, 10, 6, 11, 12, 13, 14, 15, 16, 114, 115, 116, 117, 118, 119, 120, 121, 122, 123, 124] (by decide +kernel) (by decide +kernel)
set_option maxRecDepth 20000 in
theorem gX7_fewest_X4_refusalAs : GoodIn wsX7_fewest (wsV RX7 149 RX4 yX4_refusalAs wsX4_refusalAs) := goodIn_app (goodIn_of _ (by decide +kernel)) ggX7_fewest_X4_refusalAs
set_option maxRecDepth 20000 in
theorem ggX7_fewest_X1_fewestFor : GoodIn wsX7_fewest wsX1_fewestFor := goodIn_r _ [21, 22, 23, 24, 25, 20, 26, 27, 28, 29, 30, 31, 32, 33, 34, 35, 36, 37, 38, 39, 40, 6, 41, 42, 43, 44, 45, 46, 47, 48, 49, 50, 51, 52, 53, 54, 55, 56, 57, 58, 59, 13, 14, 15, 16, 12, 60, 61, 62, 63, 64, 65, 66, 67, 68, 69, 70, 71, 72, 73, 74, 75, 76, 77, 78, 79, 80, 81, 82, 83, 84, 85, 86, 87, 88, 89, 90, 91, 92, 93, 94, 95, 96, 97, 98, 99, 100, 101, 102, 103, 104, 125, 126, 127, 128, 114, 115, 116, 117, 118, 119, 120, 121, 122, 123, 124, 129, 130] (by decide +kernel) (by decide +kernel)
set_option maxRecDepth 20000 in
theorem gX7_fewest_X1_fewestFor : GoodIn wsX7_fewest (wsV RX7 152 RX1 yX1_fewestFor wsX1_fewestFor) := goodIn_app (goodIn_of _ (by decide +kernel)) ggX7_fewest_X1_fewestFor
theorem dX7_fewest_0 : decode cX7_fewest 0 = .ok (.aload_n 0, 1) := by decide +kernel
theorem dX7_fewest_1 : decode cX7_fewest 1 = .ok (.getfield 10, 3) := by decide +kernel
theorem dX7_fewest_4 : decode cX7_fewest 4 = .ok (.iload_n 1, 1) := by decide +kernel
theorem dX7_fewest_5 : decode cX7_fewest 5 = .ok (.iconst 0, 1) := by decide +kernel
theorem dX7_fewest_6 : decode cX7_fewest 6 = .ok (.invokevirtual 149, 3) := by decide +kernel
theorem dX7_fewest_9 : decode cX7_fewest 9 = .ok (.istore 4, 2) := by decide +kernel
theorem dX7_fewest_11 : decode cX7_fewest 11 = .ok (.iload 4, 2) := by decide +kernel
theorem dX7_fewest_13 : decode cX7_fewest 13 = .ok (.ifCond .eq 8, 3) := by decide +kernel
theorem dX7_fewest_16 : decode cX7_fewest 16 = .ok (.iload 4, 2) := by decide +kernel
theorem dX7_fewest_18 : decode cX7_fewest 18 = .ok (.goto 12, 3) := by decide +kernel
theorem dX7_fewest_21 : decode cX7_fewest 21 = .ok (.aload_n 0, 1) := by decide +kernel
theorem dX7_fewest_22 : decode cX7_fewest 22 = .ok (.getfield 41, 3) := by decide +kernel
theorem dX7_fewest_25 : decode cX7_fewest 25 = .ok (.iload_n 1, 1) := by decide +kernel
theorem dX7_fewest_26 : decode cX7_fewest 26 = .ok (.lload_n 2, 1) := by decide +kernel
theorem dX7_fewest_27 : decode cX7_fewest 27 = .ok (.invokevirtual 152, 3) := by decide +kernel
theorem dX7_fewest_30 : decode cX7_fewest 30 = .ok (.ireturn, 1) := by decide +kernel
set_option maxRecDepth 20000 in
theorem ggX7_expire_X0_removeExpired : GoodIn wsX7_expire wsX0_removeExpired := goodIn_r _ [6, 7, 8, 9, 10, 11, 12, 13, 14, 15, 16, 17, 18, 19, 20, 21, 22, 23, 24, 25, 26, 27, 28, 29, 30, 31, 32, 33, 34, 35, 36, 37, 38, 39, 40, 41, 42, 43, 44, 45, 46, 47, 48, 49, 50, 51, 52, 53, 54, 55, 56, 57, 58, 59, 60, 5, 61, 62, 63, 64, 65, 66, 67, 68, 69, 70, 71, 72, 73, 74, 75, 76, 77, 78, 79, 80, 81, 82, 83, 84, 85, 86, 87, 88, 89, 90, 91, 101, 102, 103, 104, 105, 106, 107, 108, 109, 110, 111, 112] (by decide +kernel) (by decide +kernel)
set_option maxRecDepth 20000 in
theorem gX7_expire_X0_removeExpired : GoodIn wsX7_expire (wsV RX7 156 RX0 yX0_removeExpired wsX0_removeExpired) := goodIn_app (goodIn_of _ (by decide +kernel)) ggX7_expire_X0_removeExpired
theorem dX7_expire_0 : decode cX7_expire 0 = .ok (.aload_n 0, 1) := by decide +kernel
theorem dX7_expire_1 : decode cX7_expire 1 = .ok (.getfield 27, 3) := by decide +kernel
theorem dX7_expire_4 : decode cX7_expire 4 = .ok (.iload_n 1, 1) := by decide +kernel
theorem dX7_expire_5 : decode cX7_expire 5 = .ok (.iload_n 2, 1) := by decide +kernel
theorem dX7_expire_6 : decode cX7_expire 6 = .ok (.iload_n 3, 1) := by decide +kernel
theorem dX7_expire_7 : decode cX7_expire 7 = .ok (.invokevirtual 156, 3) := by decide +kernel
theorem dX7_expire_10 : decode cX7_expire 10 = .ok (.ireturn, 1) := by decide +kernel
set_option maxRecDepth 20000 in
theorem ggX7_sheet_X7_isSheet : GoodIn wsX7_sheet wsX7_isSheet := goodIn_r _ [5] (by decide +kernel) (by decide +kernel)
set_option maxRecDepth 20000 in
theorem gX7_sheet_X7_isSheet : GoodIn wsX7_sheet (va_wsS RX7 159 yX7_isSheet wsX7_isSheet) := goodIn_app (goodIn_of _ (by decide +kernel)) ggX7_sheet_X7_isSheet
set_option maxRecDepth 20000 in
theorem ggX7_sheet_X5_layAside : GoodIn wsX7_sheet wsX5_layAside := goodIn_r _ [10, 11, 12, 34, 35, 36] (by decide +kernel) (by decide +kernel)
set_option maxRecDepth 20000 in
theorem gX7_sheet_X5_layAside : GoodIn wsX7_sheet (wsV RX7 162 RX5 yX5_layAside wsX5_layAside) := goodIn_app (goodIn_of _ (by decide +kernel)) ggX7_sheet_X5_layAside
set_option maxRecDepth 20000 in
theorem ggX7_sheet_X5_layOut : GoodIn wsX7_sheet wsX5_layOut := goodIn_r _ [16, 11, 17, 18, 19, 20, 21, 22, 23, 12, 24, 34, 35, 36] (by decide +kernel) (by decide +kernel)
set_option maxRecDepth 20000 in
theorem gX7_sheet_X5_layOut : GoodIn wsX7_sheet (wsV RX7 165 RX5 yX5_layOut wsX5_layOut) := goodIn_app (goodIn_of _ (by decide +kernel)) ggX7_sheet_X5_layOut
theorem dX7_sheet_0 : decode cX7_sheet 0 = .ok (.iload_n 1, 1) := by decide +kernel
theorem dX7_sheet_1 : decode cX7_sheet 1 = .ok (.invokestatic 159, 3) := by decide +kernel
theorem dX7_sheet_4 : decode cX7_sheet 4 = .ok (.ifCond .eq 13, 3) := by decide +kernel
theorem dX7_sheet_7 : decode cX7_sheet 7 = .ok (.iload_n 2, 1) := by decide +kernel
theorem dX7_sheet_8 : decode cX7_sheet 8 = .ok (.iconst (-1), 1) := by decide +kernel
theorem dX7_sheet_9 : decode cX7_sheet 9 = .ok (.if_icmp .lt 8, 3) := by decide +kernel
theorem dX7_sheet_12 : decode cX7_sheet 12 = .ok (.iload_n 2, 1) := by decide +kernel
theorem dX7_sheet_13 : decode cX7_sheet 13 = .ok (.iconst 1, 1) := by decide +kernel
theorem dX7_sheet_14 : decode cX7_sheet 14 = .ok (.if_icmp .le 6, 3) := by decide +kernel
theorem dX7_sheet_17 : decode cX7_sheet 17 = .ok (.bipush (-2), 2) := by decide +kernel
theorem dX7_sheet_19 : decode cX7_sheet 19 = .ok (.ireturn, 1) := by decide +kernel
theorem dX7_sheet_20 : decode cX7_sheet 20 = .ok (.iload_n 2, 1) := by decide +kernel
theorem dX7_sheet_21 : decode cX7_sheet 21 = .ok (.iconst (-1), 1) := by decide +kernel
theorem dX7_sheet_22 : decode cX7_sheet 22 = .ok (.if_icmp .ne 14, 3) := by decide +kernel
theorem dX7_sheet_25 : decode cX7_sheet 25 = .ok (.aload_n 0, 1) := by decide +kernel
theorem dX7_sheet_26 : decode cX7_sheet 26 = .ok (.getfield 56, 3) := by decide +kernel
theorem dX7_sheet_29 : decode cX7_sheet 29 = .ok (.iload_n 1, 1) := by decide +kernel
theorem dX7_sheet_30 : decode cX7_sheet 30 = .ok (.aaload, 1) := by decide +kernel
theorem dX7_sheet_31 : decode cX7_sheet 31 = .ok (.invokevirtual 162, 3) := by decide +kernel
theorem dX7_sheet_34 : decode cX7_sheet 34 = .ok (.iconst 1, 1) := by decide +kernel
theorem dX7_sheet_35 : decode cX7_sheet 35 = .ok (.ireturn, 1) := by decide +kernel
theorem dX7_sheet_36 : decode cX7_sheet 36 = .ok (.iload_n 3, 1) := by decide +kernel
theorem dX7_sheet_37 : decode cX7_sheet 37 = .ok (.bipush 40, 2) := by decide +kernel
theorem dX7_sheet_39 : decode cX7_sheet 39 = .ok (.if_icmp .le 6, 3) := by decide +kernel
theorem dX7_sheet_42 : decode cX7_sheet 42 = .ok (.bipush (-2), 2) := by decide +kernel
theorem dX7_sheet_44 : decode cX7_sheet 44 = .ok (.ireturn, 1) := by decide +kernel
theorem dX7_sheet_45 : decode cX7_sheet 45 = .ok (.iload_n 3, 1) := by decide +kernel
theorem dX7_sheet_46 : decode cX7_sheet 46 = .ok (.ifCond .ge 6, 3) := by decide +kernel
theorem dX7_sheet_49 : decode cX7_sheet 49 = .ok (.bipush (-14), 2) := by decide +kernel
theorem dX7_sheet_51 : decode cX7_sheet 51 = .ok (.ireturn, 1) := by decide +kernel
theorem dX7_sheet_52 : decode cX7_sheet 52 = .ok (.aload_n 0, 1) := by decide +kernel
theorem dX7_sheet_53 : decode cX7_sheet 53 = .ok (.getfield 56, 3) := by decide +kernel
theorem dX7_sheet_56 : decode cX7_sheet 56 = .ok (.iload_n 1, 1) := by decide +kernel
theorem dX7_sheet_57 : decode cX7_sheet 57 = .ok (.aaload, 1) := by decide +kernel
theorem dX7_sheet_58 : decode cX7_sheet 58 = .ok (.iload_n 2, 1) := by decide +kernel
theorem dX7_sheet_59 : decode cX7_sheet 59 = .ok (.iload_n 3, 1) := by decide +kernel
theorem dX7_sheet_60 : decode cX7_sheet 60 = .ok (.invokevirtual 165, 3) := by decide +kernel
theorem dX7_sheet_63 : decode cX7_sheet 63 = .ok (.iconst 1, 1) := by decide +kernel
theorem dX7_sheet_64 : decode cX7_sheet 64 = .ok (.ireturn, 1) := by decide +kernel
set_option maxRecDepth 20000 in
theorem ggX7_cell_X7_isSheet : GoodIn wsX7_cell wsX7_isSheet := goodIn_r _ [5] (by decide +kernel) (by decide +kernel)
set_option maxRecDepth 20000 in
theorem gX7_cell_X7_isSheet : GoodIn wsX7_cell (va_wsS RX7 159 yX7_isSheet wsX7_isSheet) := goodIn_app (goodIn_of _ (by decide +kernel)) ggX7_cell_X7_isSheet
set_option maxRecDepth 20000 in
theorem ggX7_cell_X5_isMissing : GoodIn wsX7_cell wsX5_isMissing := goodIn_r _ [10, 11, 27, 28, 29] (by decide +kernel) (by decide +kernel)
set_option maxRecDepth 20000 in
theorem gX7_cell_X5_isMissing : GoodIn wsX7_cell (wsV RX7 169 RX5 yX5_isMissing wsX5_isMissing) := goodIn_app (goodIn_of _ (by decide +kernel)) ggX7_cell_X5_isMissing
set_option maxRecDepth 20000 in
theorem ggX7_cell_X5_put : GoodIn wsX7_cell wsX5_put := goodIn_r _ [15, 16, 17, 11, 27, 28, 29] (by decide +kernel) (by decide +kernel)
set_option maxRecDepth 20000 in
theorem gX7_cell_X5_put : GoodIn wsX7_cell (wsV RX7 173 RX5 yX5_put wsX5_put) := goodIn_app (goodIn_of _ (by decide +kernel)) ggX7_cell_X5_put
theorem dX7_cell_0 : decode cX7_cell 0 = .ok (.iload_n 1, 1) := by decide +kernel
theorem dX7_cell_1 : decode cX7_cell 1 = .ok (.invokestatic 159, 3) := by decide +kernel
theorem dX7_cell_4 : decode cX7_cell 4 = .ok (.ifCond .ne 6, 3) := by decide +kernel
theorem dX7_cell_7 : decode cX7_cell 7 = .ok (.bipush (-2), 2) := by decide +kernel
theorem dX7_cell_9 : decode cX7_cell 9 = .ok (.ireturn, 1) := by decide +kernel
theorem dX7_cell_10 : decode cX7_cell 10 = .ok (.aload_n 0, 1) := by decide +kernel
theorem dX7_cell_11 : decode cX7_cell 11 = .ok (.getfield 56, 3) := by decide +kernel
theorem dX7_cell_14 : decode cX7_cell 14 = .ok (.iload_n 1, 1) := by decide +kernel
theorem dX7_cell_15 : decode cX7_cell 15 = .ok (.aaload, 1) := by decide +kernel
theorem dX7_cell_16 : decode cX7_cell 16 = .ok (.invokevirtual 169, 3) := by decide +kernel
theorem dX7_cell_19 : decode cX7_cell 19 = .ok (.ifCond .eq 6, 3) := by decide +kernel
theorem dX7_cell_22 : decode cX7_cell 22 = .ok (.bipush (-11), 2) := by decide +kernel
theorem dX7_cell_24 : decode cX7_cell 24 = .ok (.ireturn, 1) := by decide +kernel
theorem dX7_cell_25 : decode cX7_cell 25 = .ok (.aload_n 0, 1) := by decide +kernel
theorem dX7_cell_26 : decode cX7_cell 26 = .ok (.getfield 56, 3) := by decide +kernel
theorem dX7_cell_29 : decode cX7_cell 29 = .ok (.iload_n 1, 1) := by decide +kernel
theorem dX7_cell_30 : decode cX7_cell 30 = .ok (.aaload, 1) := by decide +kernel
theorem dX7_cell_31 : decode cX7_cell 31 = .ok (.iload_n 2, 1) := by decide +kernel
theorem dX7_cell_32 : decode cX7_cell 32 = .ok (.lload_n 3, 1) := by decide +kernel
theorem dX7_cell_33 : decode cX7_cell 33 = .ok (.invokevirtual 173, 3) := by decide +kernel
theorem dX7_cell_36 : decode cX7_cell 36 = .ok (.ifCond .eq 7, 3) := by decide +kernel
theorem dX7_cell_39 : decode cX7_cell 39 = .ok (.iconst 1, 1) := by decide +kernel
theorem dX7_cell_40 : decode cX7_cell 40 = .ok (.goto 5, 3) := by decide +kernel
theorem dX7_cell_43 : decode cX7_cell 43 = .ok (.bipush (-12), 2) := by decide +kernel
theorem dX7_cell_45 : decode cX7_cell 45 = .ok (.ireturn, 1) := by decide +kernel
set_option maxRecDepth 20000 in
theorem ggX7_item_X7_isSheet : GoodIn wsX7_item wsX7_isSheet := goodIn_r _ [6] (by decide +kernel) (by decide +kernel)
set_option maxRecDepth 20000 in
theorem gX7_item_X7_isSheet : GoodIn wsX7_item (va_wsS RX7 159 yX7_isSheet wsX7_isSheet) := goodIn_app (goodIn_of _ (by decide +kernel)) ggX7_item_X7_isSheet
set_option maxRecDepth 20000 in
theorem ggX7_item_X5_has : GoodIn wsX7_item wsX5_has := goodIn_r _ [11, 12, 28, 29, 30] (by decide +kernel) (by decide +kernel)
set_option maxRecDepth 20000 in
theorem gX7_item_X5_has : GoodIn wsX7_item (wsV RX7 177 RX5 yX5_has wsX5_has) := goodIn_app (goodIn_of _ (by decide +kernel)) ggX7_item_X5_has
set_option maxRecDepth 20000 in
theorem ggX7_item_X5_at : GoodIn wsX7_item wsX5_at := goodIn_r _ [16, 17, 18, 8, 9, 10, 11, 12, 28, 29, 30] (by decide +kernel) (by decide +kernel)
set_option maxRecDepth 20000 in
theorem gX7_item_X5_at : GoodIn wsX7_item (wsV RX7 180 RX5 yX5_at wsX5_at) := goodIn_app (goodIn_of _ (by decide +kernel)) ggX7_item_X5_at
theorem dX7_item_0 : decode cX7_item 0 = .ok (.iload_n 1, 1) := by decide +kernel
theorem dX7_item_1 : decode cX7_item 1 = .ok (.invokestatic 159, 3) := by decide +kernel
theorem dX7_item_4 : decode cX7_item 4 = .ok (.ifCond .eq 29, 3) := by decide +kernel
theorem dX7_item_7 : decode cX7_item 7 = .ok (.aload_n 0, 1) := by decide +kernel
theorem dX7_item_8 : decode cX7_item 8 = .ok (.getfield 56, 3) := by decide +kernel
theorem dX7_item_11 : decode cX7_item 11 = .ok (.iload_n 1, 1) := by decide +kernel
theorem dX7_item_12 : decode cX7_item 12 = .ok (.aaload, 1) := by decide +kernel
theorem dX7_item_13 : decode cX7_item 13 = .ok (.iload_n 2, 1) := by decide +kernel
theorem dX7_item_14 : decode cX7_item 14 = .ok (.invokevirtual 177, 3) := by decide +kernel
theorem dX7_item_17 : decode cX7_item 17 = .ok (.ifCond .eq 16, 3) := by decide +kernel
theorem dX7_item_20 : decode cX7_item 20 = .ok (.aload_n 0, 1) := by decide +kernel
theorem dX7_item_21 : decode cX7_item 21 = .ok (.getfield 56, 3) := by decide +kernel
theorem dX7_item_24 : decode cX7_item 24 = .ok (.iload_n 1, 1) := by decide +kernel
theorem dX7_item_25 : decode cX7_item 25 = .ok (.aaload, 1) := by decide +kernel
theorem dX7_item_26 : decode cX7_item 26 = .ok (.iload_n 2, 1) := by decide +kernel
theorem dX7_item_27 : decode cX7_item 27 = .ok (.invokevirtual 180, 3) := by decide +kernel
theorem dX7_item_30 : decode cX7_item 30 = .ok (.goto 6, 3) := by decide +kernel
theorem dX7_item_33 : decode cX7_item 33 = .ok (.ldc2_w 129, 3) := by decide +kernel
theorem dX7_item_36 : decode cX7_item 36 = .ok (.lreturn, 1) := by decide +kernel
set_option maxRecDepth 20000 in
theorem ggX7_differ_X7_isSheet : GoodIn wsX7_differ wsX7_isSheet := goodIn_r _ [7] (by decide +kernel) (by decide +kernel)
set_option maxRecDepth 20000 in
theorem gX7_differ_X7_isSheet : GoodIn wsX7_differ (va_wsS RX7 159 yX7_isSheet wsX7_isSheet) := goodIn_app (goodIn_of _ (by decide +kernel)) ggX7_differ_X7_isSheet
set_option maxRecDepth 20000 in
theorem ggX7_differ_X4_refusalAsHolder : GoodIn wsX7_differ wsX4_refusalAsHolder := goodIn_r _ [12, 13, 14, 15, 11, 16, 17, 18, 19, 20, 21, 74, 75, 76, 77, 78, 79, 80, 81, 82, 83, 84] (by decide +kernel) (by decide +kernel)
set_option maxRecDepth 20000 in
theorem gX7_differ_X4_refusalAsHolder : GoodIn wsX7_differ (wsV RX7 183 RX4 yX4_refusalAsHolder wsX4_refusalAsHolder) := goodIn_app (goodIn_of _ (by decide +kernel)) ggX7_differ_X4_refusalAsHolder
set_option maxRecDepth 20000 in
theorem ggX7_differ_X6_writeDifference : GoodIn wsX7_differ wsX6_writeDifference := goodIn_r _ [26, 27, 28, 29, 30, 31, 32, 33, 34, 35, 36, 37, 38, 39, 40, 41, 42, 43, 44, 45, 11, 46, 47, 48, 49, 50, 51, 52, 53, 54, 55, 56, 57, 58, 59, 60, 61, 62, 63, 64, 85, 86, 87, 88, 89, 74, 75, 76, 77, 78, 79, 80, 81, 82, 83, 84] (by decide +kernel) (by decide +kernel)
