theorem dX3_init_0 : decode cX3_init 0 = .ok (.aload_n 0, 1) := by decide +kernel
theorem dX3_init_1 : decode cX3_init 1 = .ok (.invokespecial 3, 3) := by decide +kernel
theorem dX3_init_4 : decode cX3_init 4 = .ok (.aload_n 0, 1) := by decide +kernel
theorem dX3_init_5 : decode cX3_init 5 = .ok (.aload_n 1, 1) := by decide +kernel
theorem dX3_init_6 : decode cX3_init 6 = .ok (.putfield 9, 3) := by decide +kernel
theorem dX3_init_9 : decode cX3_init 9 = .ok (.aload_n 0, 1) := by decide +kernel
theorem dX3_init_10 : decode cX3_init 10 = .ok (.iconst 0, 1) := by decide +kernel
theorem dX3_init_11 : decode cX3_init 11 = .ok (.putfield 15, 3) := by decide +kernel
theorem dX3_init_14 : decode cX3_init 14 = .ok (.return_, 1) := by decide +kernel
set_option maxRecDepth 20000 in
theorem ggX3_play_X3_nextFace : GoodIn wsX3_play wsX3_nextFace := goodIn_r _ [6, 1, 7, 207, 208] (by decide +kernel) (by decide +kernel)
set_option maxRecDepth 20000 in
theorem gX3_play_X3_nextFace : GoodIn wsX3_play (wsV RX3 19 RX3 yX3_nextFace wsX3_nextFace) := goodIn_app (goodIn_of _ (by decide +kernel)) ggX3_play_X3_nextFace
set_option maxRecDepth 20000 in
theorem ggX3_play_X3_act : GoodIn wsX3_play wsX3_act := goodIn_r _ [11, 12, 13, 14, 15, 16, 17, 18, 19, 20, 21, 22, 23, 24, 25, 26, 27, 28, 29, 30, 31, 32, 33, 34, 35, 36, 37, 38, 39, 40, 41, 42, 43, 44, 45, 46, 47, 48, 49, 50, 51, 52, 53, 54, 55, 56, 57, 58, 59, 60, 61, 62, 63, 64, 65, 66, 67, 68, 69, 70, 71, 72, 73, 74, 75, 76, 77, 78, 79, 80, 81, 82, 83, 84, 85, 86, 87, 88, 89, 90, 91, 92, 93, 94, 95, 96, 97, 98, 99, 100, 101, 102, 103, 104, 105, 106, 107, 108, 109, 110, 111, 112, 113, 114, 115, 116, 117, 118, 119, 120, 121, 122, 123, 124, 125, 126, 127, 128, 129, 130, 131, 132, 133, 134, 135, 136, 137, 138, 139, 140, 141, 142, 143, 144, 145, 146, 147, 148, 149, 150, 151, 152, 153, 154, 155, 156, 157, 158, 159, 160, 161, 162, 163, 164, 165, 166, 167, 168, 169, 170, 171, 172, 173, 174, 175, 176, 177, 178, 179, 180, 181, 182, 183, 184, 185, 186, 187, 188, 189, 190, 191, 192, 193, 194, 195, 196, 197, 198, 199, 200, 201, 202, 203, 204, 205, 206, 207, 208, 209, 210, 211, 212, 213, 214, 215, 216, 217, 218, 219, 220] (by decide +kernel) (by decide +kernel)
set_option maxRecDepth 20000 in
theorem gX3_play_X3_act : GoodIn wsX3_play (wsV RX3 23 RX3 yX3_act wsX3_act) := goodIn_app (goodIn_of _ (by decide +kernel)) ggX3_play_X3_act
theorem dX3_play_0 : decode cX3_play 0 = .ok (.aload_n 0, 1) := by decide +kernel
theorem dX3_play_1 : decode cX3_play 1 = .ok (.iload_n 1, 1) := by decide +kernel
theorem dX3_play_2 : decode cX3_play 2 = .ok (.putfield 15, 3) := by decide +kernel
theorem dX3_play_5 : decode cX3_play 5 = .ok (.iconst 0, 1) := by decide +kernel
theorem dX3_play_6 : decode cX3_play 6 = .ok (.istore_n 3, 1) := by decide +kernel
theorem dX3_play_7 : decode cX3_play 7 = .ok (.iload_n 3, 1) := by decide +kernel
theorem dX3_play_8 : decode cX3_play 8 = .ok (.iload_n 2, 1) := by decide +kernel
theorem dX3_play_9 : decode cX3_play 9 = .ok (.if_icmp .ge 37, 3) := by decide +kernel
theorem dX3_play_12 : decode cX3_play 12 = .ok (.aload_n 0, 1) := by decide +kernel
theorem dX3_play_13 : decode cX3_play 13 = .ok (.invokevirtual 19, 3) := by decide +kernel
theorem dX3_play_16 : decode cX3_play 16 = .ok (.istore 4, 2) := by decide +kernel
theorem dX3_play_18 : decode cX3_play 18 = .ok (.aload_n 0, 1) := by decide +kernel
theorem dX3_play_19 : decode cX3_play 19 = .ok (.invokevirtual 19, 3) := by decide +kernel
theorem dX3_play_22 : decode cX3_play 22 = .ok (.istore 5, 2) := by decide +kernel
theorem dX3_play_24 : decode cX3_play 24 = .ok (.aload_n 0, 1) := by decide +kernel
theorem dX3_play_25 : decode cX3_play 25 = .ok (.invokevirtual 19, 3) := by decide +kernel
theorem dX3_play_28 : decode cX3_play 28 = .ok (.istore 6, 2) := by decide +kernel
theorem dX3_play_30 : decode cX3_play 30 = .ok (.aload_n 0, 1) := by decide +kernel
theorem dX3_play_31 : decode cX3_play 31 = .ok (.iload 4, 2) := by decide +kernel
theorem dX3_play_33 : decode cX3_play 33 = .ok (.iload 5, 2) := by decide +kernel
theorem dX3_play_35 : decode cX3_play 35 = .ok (.iload 6, 2) := by decide +kernel
theorem dX3_play_37 : decode cX3_play 37 = .ok (.invokevirtual 23, 3) := by decide +kernel
theorem dX3_play_40 : decode cX3_play 40 = .ok (.iinc 3 1, 3) := by decide +kernel
theorem dX3_play_43 : decode cX3_play 43 = .ok (.goto (-36), 3) := by decide +kernel
theorem dX3_play_46 : decode cX3_play 46 = .ok (.return_, 1) := by decide +kernel
theorem dX3_nextFace_0 : decode cX3_nextFace 0 = .ok (.aload_n 0, 1) := by decide +kernel
theorem dX3_nextFace_1 : decode cX3_nextFace 1 = .ok (.aload_n 0, 1) := by decide +kernel
theorem dX3_nextFace_2 : decode cX3_nextFace 2 = .ok (.getfield 15, 3) := by decide +kernel
theorem dX3_nextFace_5 : decode cX3_nextFace 5 = .ok (.ldc 27, 2) := by decide +kernel
theorem dX3_nextFace_7 : decode cX3_nextFace 7 = .ok (.imul, 1) := by decide +kernel
theorem dX3_nextFace_8 : decode cX3_nextFace 8 = .ok (.sipush 12345, 3) := by decide +kernel
theorem dX3_nextFace_11 : decode cX3_nextFace 11 = .ok (.iadd, 1) := by decide +kernel
theorem dX3_nextFace_12 : decode cX3_nextFace 12 = .ok (.putfield 15, 3) := by decide +kernel
theorem dX3_nextFace_15 : decode cX3_nextFace 15 = .ok (.aload_n 0, 1) := by decide +kernel
theorem dX3_nextFace_16 : decode cX3_nextFace 16 = .ok (.getfield 15, 3) := by decide +kernel
theorem dX3_nextFace_19 : decode cX3_nextFace 19 = .ok (.bipush 9, 2) := by decide +kernel
theorem dX3_nextFace_21 : decode cX3_nextFace 21 = .ok (.iushr, 1) := by decide +kernel
theorem dX3_nextFace_22 : decode cX3_nextFace 22 = .ok (.bipush 24, 2) := by decide +kernel
theorem dX3_nextFace_24 : decode cX3_nextFace 24 = .ok (.irem, 1) := by decide +kernel
theorem dX3_nextFace_25 : decode cX3_nextFace 25 = .ok (.ireturn, 1) := by decide +kernel
set_option maxRecDepth 20000 in
theorem ggX3_act_X0_writeSlot : GoodIn wsX3_act wsX0_writeSlot := goodIn_r _ [6, 7, 8, 9, 10, 11, 12, 13, 14, 15, 16, 17, 18, 19, 20, 21, 22, 23, 24, 25, 5, 26, 27, 28, 29, 30, 31, 32, 33, 34, 35, 36, 37, 38, 39, 40, 41, 42, 43, 44, 45, 46, 47, 48, 49, 50, 51, 52, 53, 54, 55, 56, 57, 58, 59, 60, 61, 62, 63, 64, 65, 66, 67, 68, 69, 70, 71, 72, 73, 74, 75, 76, 77, 78, 79, 80, 198, 199, 200, 201, 202, 203, 204, 205, 206, 207, 208, 209] (by decide +kernel) (by decide +kernel)
set_option maxRecDepth 20000 in
theorem gX3_act_X0_writeSlot : GoodIn wsX3_act (wsV RX3 28 RX0 yX0_writeSlot wsX0_writeSlot) := goodIn_app (goodIn_of _ (by decide +kernel)) ggX3_act_X0_writeSlot
set_option maxRecDepth 20000 in
theorem ggX3_act_X0_eraseSlot : GoodIn wsX3_act wsX0_eraseSlot := goodIn_r _ [84, 8, 9, 10, 11, 12, 13, 14, 15, 16, 17, 18, 19, 20, 21, 22, 46, 37, 38, 39, 40, 54, 55, 56, 5, 57, 58, 59, 60, 61, 62, 63, 64, 65, 52, 66, 67, 68, 69, 70, 71, 72, 73, 74, 75, 76, 77, 78, 79, 45, 80, 198, 199, 200, 201, 202, 203, 204, 205, 206, 207, 208, 209] (by decide +kernel) (by decide +kernel)
set_option maxRecDepth 20000 in
theorem gX3_act_X0_eraseSlot : GoodIn wsX3_act (wsV RX3 34 RX0 yX0_eraseSlot wsX0_eraseSlot) := goodIn_app (goodIn_of _ (by decide +kernel)) ggX3_act_X0_eraseSlot
set_option maxRecDepth 20000 in
theorem ggX3_act_X0_addSnapshot : GoodIn wsX3_act wsX0_addSnapshot := goodIn_r _ [88, 8, 9, 10, 11, 12, 13, 14, 15, 16, 17, 18, 19, 20, 21, 22, 89, 90, 91, 92, 53, 93, 94, 95, 96, 75, 97, 98, 99, 100, 36, 37, 38, 39, 40, 101, 59, 60, 61, 66, 67, 68, 69, 70, 102, 103, 104, 105, 106, 107, 108, 109, 110, 111, 112, 113, 114, 115, 116, 117, 118, 119, 198, 199, 200, 201, 202, 203, 204, 205, 206, 207, 208, 209] (by decide +kernel) (by decide +kernel)
set_option maxRecDepth 20000 in
theorem gX3_act_X0_addSnapshot : GoodIn wsX3_act (wsV RX3 38 RX0 yX0_addSnapshot wsX0_addSnapshot) := goodIn_app (goodIn_of _ (by decide +kernel)) ggX3_act_X0_addSnapshot
set_option maxRecDepth 20000 in
theorem ggX3_act_X0_removeThing : GoodIn wsX3_act wsX0_removeThing := goodIn_r _ [123, 8, 124, 15, 16, 12, 17, 18, 125, 126, 127, 128, 19, 20, 21, 22, 129, 130, 131, 132, 133, 134, 135, 136, 137, 115, 138, 139, 140, 141, 70, 142, 143, 144, 5, 145, 146, 147, 148, 149, 66, 67, 68, 69, 46, 37, 38, 39, 40, 62, 63, 64, 65, 52, 71, 72, 73, 74, 75, 76, 77, 78, 79, 45, 80, 102, 103, 104, 105, 150, 151, 152, 153, 110, 31, 154, 155, 156, 157, 54, 55, 56, 57, 58, 59, 60, 61, 198, 199, 200, 201, 202, 203, 204, 205, 206, 207, 208, 209] (by decide +kernel) (by decide +kernel)
set_option maxRecDepth 20000 in
theorem gX3_act_X0_removeThing : GoodIn wsX3_act (wsV RX3 41 RX0 yX0_removeThing wsX0_removeThing) := goodIn_app (goodIn_of _ (by decide +kernel)) ggX3_act_X0_removeThing
set_option maxRecDepth 20000 in
theorem ggX3_act_X0_addFork : GoodIn wsX3_act wsX0_addFork := goodIn_r _ [161, 8, 9, 10, 11, 12, 13, 14, 15, 16, 17, 18, 19, 20, 21, 22, 89, 90, 91, 92, 53, 93, 94, 95, 96, 75, 97, 98, 99, 100, 36, 37, 38, 39, 40, 101, 59, 60, 61, 102, 103, 104, 105, 70, 198, 199, 200, 201, 202, 203, 204, 205, 206, 207, 208, 209] (by decide +kernel) (by decide +kernel)
set_option maxRecDepth 20000 in
theorem gX3_act_X0_addFork : GoodIn wsX3_act (wsV RX3 45 RX0 yX0_addFork wsX0_addFork) := goodIn_app (goodIn_of _ (by decide +kernel)) ggX3_act_X0_addFork
set_option maxRecDepth 20000 in
theorem ggX3_act_X0_promoteFiles : GoodIn wsX3_act wsX0_promoteFiles := goodIn_r _ [165, 8, 9, 10, 11, 12, 13, 14, 15, 16, 17, 18, 19, 20, 21, 22, 166, 167, 168, 169, 170, 171, 172, 173, 174, 155, 156, 157, 110, 175, 176, 177, 178, 179, 67, 68, 69, 70, 180, 181, 182, 183, 106, 107, 108, 109, 66, 198, 199, 200, 201, 202, 203, 204, 205, 206, 207, 208, 209] (by decide +kernel) (by decide +kernel)
set_option maxRecDepth 20000 in
theorem gX3_act_X0_promoteFiles : GoodIn wsX3_act (wsV RX3 48 RX0 yX0_promoteFiles wsX0_promoteFiles) := goodIn_app (goodIn_of _ (by decide +kernel)) ggX3_act_X0_promoteFiles
set_option maxRecDepth 20000 in
theorem ggX3_act_X0_rollFilesBack : GoodIn wsX3_act wsX0_rollFilesBack := goodIn_r _ [187, 8, 9, 10, 11, 12, 13, 14, 15, 16, 17, 18, 19, 20, 21, 22, 66, 67, 68, 69, 70, 54, 55, 56, 5, 57, 46, 37, 38, 39, 40, 58, 59, 60, 61, 62, 63, 64, 65, 52, 71, 72, 73, 74, 75, 76, 77, 78, 79, 45, 80, 97, 98, 99, 100, 36, 101, 198, 199, 200, 201, 202, 203, 204, 205, 206, 207, 208, 209] (by decide +kernel) (by decide +kernel)
set_option maxRecDepth 20000 in
theorem gX3_act_X0_rollFilesBack : GoodIn wsX3_act (wsV RX3 51 RX0 yX0_rollFilesBack wsX0_rollFilesBack) := goodIn_app (goodIn_of _ (by decide +kernel)) ggX3_act_X0_rollFilesBack
set_option maxRecDepth 20000 in
theorem ggX3_act_X0_addFiles : GoodIn wsX3_act wsX0_addFiles := goodIn_r _ [191, 7, 8, 89, 90, 91, 12, 92, 53, 93, 94, 95, 96, 18, 75, 192, 193, 194, 195, 31, 198, 199, 200, 201, 202, 203, 204, 205, 206, 207, 208, 209] (by decide +kernel) (by decide +kernel)
set_option maxRecDepth 20000 in
theorem gX3_act_X0_addFiles : GoodIn wsX3_act (wsV RX3 54 RX0 yX0_addFiles wsX0_addFiles) := goodIn_app (goodIn_of _ (by decide +kernel)) ggX3_act_X0_addFiles
theorem dX3_act_0 : decode cX3_act 0 = .ok (.iload_n 2, 1) := by decide +kernel
theorem dX3_act_1 : decode cX3_act 1 = .ok (.bipush 20, 2) := by decide +kernel
theorem dX3_act_3 : decode cX3_act 3 = .ok (.irem, 1) := by decide +kernel
theorem dX3_act_4 : decode cX3_act 4 = .ok (.istore 4, 2) := by decide +kernel
theorem dX3_act_6 : decode cX3_act 6 = .ok (.iload_n 1, 1) := by decide +kernel
theorem dX3_act_7 : decode cX3_act 7 = .ok (.bipush 7, 2) := by decide +kernel
theorem dX3_act_9 : decode cX3_act 9 = .ok (.if_icmp .gt 23, 3) := by decide +kernel
theorem dX3_act_12 : decode cX3_act 12 = .ok (.aload_n 0, 1) := by decide +kernel
theorem dX3_act_13 : decode cX3_act 13 = .ok (.getfield 9, 3) := by decide +kernel
theorem dX3_act_16 : decode cX3_act 16 = .ok (.iload 4, 2) := by decide +kernel
theorem dX3_act_18 : decode cX3_act 18 = .ok (.iload_n 3, 1) := by decide +kernel
theorem dX3_act_19 : decode cX3_act 19 = .ok (.bipush 12, 2) := by decide +kernel
theorem dX3_act_21 : decode cX3_act 21 = .ok (.irem, 1) := by decide +kernel
theorem dX3_act_22 : decode cX3_act 22 = .ok (.iconst 1, 1) := by decide +kernel
theorem dX3_act_23 : decode cX3_act 23 = .ok (.iload_n 2, 1) := by decide +kernel
theorem dX3_act_24 : decode cX3_act 24 = .ok (.iadd, 1) := by decide +kernel
theorem dX3_act_25 : decode cX3_act 25 = .ok (.invokevirtual 28, 3) := by decide +kernel
theorem dX3_act_28 : decode cX3_act 28 = .ok (.pop, 1) := by decide +kernel
theorem dX3_act_29 : decode cX3_act 29 = .ok (.goto 134, 3) := by decide +kernel
theorem dX3_act_32 : decode cX3_act 32 = .ok (.iload_n 1, 1) := by decide +kernel
theorem dX3_act_33 : decode cX3_act 33 = .ok (.bipush 10, 2) := by decide +kernel
theorem dX3_act_35 : decode cX3_act 35 = .ok (.if_icmp .gt 20, 3) := by decide +kernel
theorem dX3_act_38 : decode cX3_act 38 = .ok (.aload_n 0, 1) := by decide +kernel
theorem dX3_act_39 : decode cX3_act 39 = .ok (.getfield 9, 3) := by decide +kernel
theorem dX3_act_42 : decode cX3_act 42 = .ok (.iload 4, 2) := by decide +kernel
theorem dX3_act_44 : decode cX3_act 44 = .ok (.iload_n 3, 1) := by decide +kernel
theorem dX3_act_45 : decode cX3_act 45 = .ok (.bipush 12, 2) := by decide +kernel
theorem dX3_act_47 : decode cX3_act 47 = .ok (.irem, 1) := by decide +kernel
theorem dX3_act_48 : decode cX3_act 48 = .ok (.invokevirtual 34, 3) := by decide +kernel
theorem dX3_act_51 : decode cX3_act 51 = .ok (.pop, 1) := by decide +kernel
theorem dX3_act_52 : decode cX3_act 52 = .ok (.goto 111, 3) := by decide +kernel
theorem dX3_act_55 : decode cX3_act 55 = .ok (.iload_n 1, 1) := by decide +kernel
theorem dX3_act_56 : decode cX3_act 56 = .ok (.bipush 14, 2) := by decide +kernel
theorem dX3_act_58 : decode cX3_act 58 = .ok (.if_icmp .gt 20, 3) := by decide +kernel
theorem dX3_act_61 : decode cX3_act 61 = .ok (.aload_n 0, 1) := by decide +kernel
theorem dX3_act_62 : decode cX3_act 62 = .ok (.getfield 9, 3) := by decide +kernel
theorem dX3_act_65 : decode cX3_act 65 = .ok (.iload 4, 2) := by decide +kernel
theorem dX3_act_67 : decode cX3_act 67 = .ok (.iload_n 3, 1) := by decide +kernel
theorem dX3_act_68 : decode cX3_act 68 = .ok (.bipush 20, 2) := by decide +kernel
theorem dX3_act_70 : decode cX3_act 70 = .ok (.idiv, 1) := by decide +kernel
theorem dX3_act_71 : decode cX3_act 71 = .ok (.invokevirtual 38, 3) := by decide +kernel
theorem dX3_act_74 : decode cX3_act 74 = .ok (.pop, 1) := by decide +kernel
theorem dX3_act_75 : decode cX3_act 75 = .ok (.goto 88, 3) := by decide +kernel
theorem dX3_act_78 : decode cX3_act 78 = .ok (.iload_n 1, 1) := by decide +kernel
theorem dX3_act_79 : decode cX3_act 79 = .ok (.bipush 18, 2) := by decide +kernel
theorem dX3_act_81 : decode cX3_act 81 = .ok (.if_icmp .gt 16, 3) := by decide +kernel
theorem dX3_act_84 : decode cX3_act 84 = .ok (.aload_n 0, 1) := by decide +kernel
theorem dX3_act_85 : decode cX3_act 85 = .ok (.getfield 9, 3) := by decide +kernel
theorem dX3_act_88 : decode cX3_act 88 = .ok (.iload 4, 2) := by decide +kernel
theorem dX3_act_90 : decode cX3_act 90 = .ok (.invokevirtual 41, 3) := by decide +kernel
theorem dX3_act_93 : decode cX3_act 93 = .ok (.pop, 1) := by decide +kernel
theorem dX3_act_94 : decode cX3_act 94 = .ok (.goto 69, 3) := by decide +kernel
theorem dX3_act_97 : decode cX3_act 97 = .ok (.iload_n 1, 1) := by decide +kernel
theorem dX3_act_98 : decode cX3_act 98 = .ok (.bipush 20, 2) := by decide +kernel
theorem dX3_act_100 : decode cX3_act 100 = .ok (.if_icmp .gt 16, 3) := by decide +kernel
theorem dX3_act_103 : decode cX3_act 103 = .ok (.aload_n 0, 1) := by decide +kernel
theorem dX3_act_104 : decode cX3_act 104 = .ok (.getfield 9, 3) := by decide +kernel
theorem dX3_act_107 : decode cX3_act 107 = .ok (.iload 4, 2) := by decide +kernel
theorem dX3_act_109 : decode cX3_act 109 = .ok (.invokevirtual 45, 3) := by decide +kernel
theorem dX3_act_112 : decode cX3_act 112 = .ok (.pop, 1) := by decide +kernel
theorem dX3_act_113 : decode cX3_act 113 = .ok (.goto 50, 3) := by decide +kernel
theorem dX3_act_116 : decode cX3_act 116 = .ok (.iload_n 1, 1) := by decide +kernel
theorem dX3_act_117 : decode cX3_act 117 = .ok (.bipush 21, 2) := by decide +kernel
theorem dX3_act_119 : decode cX3_act 119 = .ok (.if_icmp .ne 16, 3) := by decide +kernel
theorem dX3_act_122 : decode cX3_act 122 = .ok (.aload_n 0, 1) := by decide +kernel
theorem dX3_act_123 : decode cX3_act 123 = .ok (.getfield 9, 3) := by decide +kernel
theorem dX3_act_126 : decode cX3_act 126 = .ok (.iload 4, 2) := by decide +kernel
theorem dX3_act_128 : decode cX3_act 128 = .ok (.invokevirtual 48, 3) := by decide +kernel
theorem dX3_act_131 : decode cX3_act 131 = .ok (.pop, 1) := by decide +kernel
theorem dX3_act_132 : decode cX3_act 132 = .ok (.goto 31, 3) := by decide +kernel
theorem dX3_act_135 : decode cX3_act 135 = .ok (.iload_n 1, 1) := by decide +kernel
theorem dX3_act_136 : decode cX3_act 136 = .ok (.bipush 22, 2) := by decide +kernel
theorem dX3_act_138 : decode cX3_act 138 = .ok (.if_icmp .ne 16, 3) := by decide +kernel
theorem dX3_act_141 : decode cX3_act 141 = .ok (.aload_n 0, 1) := by decide +kernel
theorem dX3_act_142 : decode cX3_act 142 = .ok (.getfield 9, 3) := by decide +kernel
theorem dX3_act_145 : decode cX3_act 145 = .ok (.iload 4, 2) := by decide +kernel
theorem dX3_act_147 : decode cX3_act 147 = .ok (.invokevirtual 51, 3) := by decide +kernel
theorem dX3_act_150 : decode cX3_act 150 = .ok (.pop, 1) := by decide +kernel
theorem dX3_act_151 : decode cX3_act 151 = .ok (.goto 12, 3) := by decide +kernel
theorem dX3_act_154 : decode cX3_act 154 = .ok (.aload_n 0, 1) := by decide +kernel
theorem dX3_act_155 : decode cX3_act 155 = .ok (.getfield 9, 3) := by decide +kernel
theorem dX3_act_158 : decode cX3_act 158 = .ok (.iconst (-1), 1) := by decide +kernel
theorem dX3_act_159 : decode cX3_act 159 = .ok (.invokevirtual 54, 3) := by decide +kernel
theorem dX3_act_162 : decode cX3_act 162 = .ok (.pop, 1) := by decide +kernel
theorem dX3_act_163 : decode cX3_act 163 = .ok (.return_, 1) := by decide +kernel
