set_option maxRecDepth 20000 in
theorem ggX7_init_X4_init : GoodIn wsX7_init wsX4_init := goodIn_r _ [33, 34, 2, 3, 35, 36, 37, 38, 39, 40, 41, 42, 43, 44, 45, 46, 91, 92, 93, 94, 95, 96, 97, 98, 99, 100, 101] (by decide +kernel) (by decide +kernel)
set_option maxRecDepth 20000 in
theorem gX7_init_X4_init : GoodIn wsX7_init (wsX4_init) := ggX7_init_X4_init
set_option maxRecDepth 20000 in
theorem ggX7_init_X0_init : GoodIn wsX7_init wsX0_init := goodIn_r _ [49, 50, 2, 3, 51, 111] (by decide +kernel) (by decide +kernel)
set_option maxRecDepth 20000 in
theorem gX7_init_X0_init : GoodIn wsX7_init (wsX0_init) := ggX7_init_X0_init
set_option maxRecDepth 20000 in
theorem ggX7_init_X6_init : GoodIn wsX7_init wsX6_init := goodIn_r _ [54, 55, 2, 3, 56, 57, 58, 59, 60, 61, 62, 63, 64, 65, 35, 66, 112, 113, 123, 124] (by decide +kernel) (by decide +kernel)
set_option maxRecDepth 20000 in
theorem gX7_init_X6_init : GoodIn wsX7_init (wsX6_init) := ggX7_init_X6_init
set_option maxRecDepth 20000 in
theorem ggX7_init_X1_init : GoodIn wsX7_init wsX1_init := goodIn_r _ [69, 70, 2, 3, 71, 72, 58, 59, 73, 35, 74, 75, 76, 77, 62, 63, 64, 65, 66, 114, 115, 116, 117, 123, 124] (by decide +kernel) (by decide +kernel)
set_option maxRecDepth 20000 in
theorem gX7_init_X1_init : GoodIn wsX7_init (wsX1_init) := ggX7_init_X1_init
set_option maxRecDepth 20000 in
theorem ggX7_init_X3_init : GoodIn wsX7_init wsX3_init := goodIn_r _ [80, 81, 2, 3, 82, 83, 118, 119] (by decide +kernel) (by decide +kernel)
set_option maxRecDepth 20000 in
theorem gX7_init_X3_init : GoodIn wsX7_init (wsX3_init) := ggX7_init_X3_init
set_option maxRecDepth 20000 in
theorem ggX7_init_X5_init : GoodIn wsX7_init wsX5_init := goodIn_r _ [86, 87, 2, 3, 75, 88, 89, 90, 120, 121, 122] (by decide +kernel) (by decide +kernel)
set_option maxRecDepth 20000 in
theorem gX7_init_X5_init : GoodIn wsX7_init (wsX5_init) := ggX7_init_X5_init
theorem dX7_init_0 : decode cX7_init 0 = .ok (.aload_n 0, 1) := by decide +kernel
theorem dX7_init_1 : decode cX7_init 1 = .ok (.invokespecial 1, 3) := by decide +kernel
theorem dX7_init_4 : decode cX7_init 4 = .ok (.aload_n 0, 1) := by decide +kernel
theorem dX7_init_5 : decode cX7_init 5 = .ok (.new 7, 3) := by decide +kernel
theorem dX7_init_8 : decode cX7_init 8 = .ok (.dup, 1) := by decide +kernel
theorem dX7_init_9 : decode cX7_init 9 = .ok (.invokespecial 9, 3) := by decide +kernel
theorem dX7_init_12 : decode cX7_init 12 = .ok (.putfield 10, 3) := by decide +kernel
theorem dX7_init_15 : decode cX7_init 15 = .ok (.aload_n 0, 1) := by decide +kernel
theorem dX7_init_16 : decode cX7_init 16 = .ok (.new 7, 3) := by decide +kernel
theorem dX7_init_19 : decode cX7_init 19 = .ok (.dup, 1) := by decide +kernel
theorem dX7_init_20 : decode cX7_init 20 = .ok (.invokespecial 9, 3) := by decide +kernel
theorem dX7_init_23 : decode cX7_init 23 = .ok (.putfield 16, 3) := by decide +kernel
theorem dX7_init_26 : decode cX7_init 26 = .ok (.aload_n 0, 1) := by decide +kernel
theorem dX7_init_27 : decode cX7_init 27 = .ok (.new 7, 3) := by decide +kernel
theorem dX7_init_30 : decode cX7_init 30 = .ok (.dup, 1) := by decide +kernel
theorem dX7_init_31 : decode cX7_init 31 = .ok (.invokespecial 9, 3) := by decide +kernel
theorem dX7_init_34 : decode cX7_init 34 = .ok (.putfield 19, 3) := by decide +kernel
theorem dX7_init_37 : decode cX7_init 37 = .ok (.aload_n 0, 1) := by decide +kernel
theorem dX7_init_38 : decode cX7_init 38 = .ok (.new 22, 3) := by decide +kernel
theorem dX7_init_41 : decode cX7_init 41 = .ok (.dup, 1) := by decide +kernel
theorem dX7_init_42 : decode cX7_init 42 = .ok (.aload_n 0, 1) := by decide +kernel
theorem dX7_init_43 : decode cX7_init 43 = .ok (.getfield 10, 3) := by decide +kernel
theorem dX7_init_46 : decode cX7_init 46 = .ok (.invokespecial 24, 3) := by decide +kernel
theorem dX7_init_49 : decode cX7_init 49 = .ok (.putfield 27, 3) := by decide +kernel
theorem dX7_init_52 : decode cX7_init 52 = .ok (.aload_n 0, 1) := by decide +kernel
theorem dX7_init_53 : decode cX7_init 53 = .ok (.new 31, 3) := by decide +kernel
theorem dX7_init_56 : decode cX7_init 56 = .ok (.dup, 1) := by decide +kernel
theorem dX7_init_57 : decode cX7_init 57 = .ok (.aload_n 0, 1) := by decide +kernel
theorem dX7_init_58 : decode cX7_init 58 = .ok (.getfield 10, 3) := by decide +kernel
theorem dX7_init_61 : decode cX7_init 61 = .ok (.invokespecial 33, 3) := by decide +kernel
theorem dX7_init_64 : decode cX7_init 64 = .ok (.putfield 34, 3) := by decide +kernel
theorem dX7_init_67 : decode cX7_init 67 = .ok (.aload_n 0, 1) := by decide +kernel
theorem dX7_init_68 : decode cX7_init 68 = .ok (.new 38, 3) := by decide +kernel
theorem dX7_init_71 : decode cX7_init 71 = .ok (.dup, 1) := by decide +kernel
theorem dX7_init_72 : decode cX7_init 72 = .ok (.aload_n 0, 1) := by decide +kernel
theorem dX7_init_73 : decode cX7_init 73 = .ok (.getfield 10, 3) := by decide +kernel
theorem dX7_init_76 : decode cX7_init 76 = .ok (.invokespecial 40, 3) := by decide +kernel
theorem dX7_init_79 : decode cX7_init 79 = .ok (.putfield 41, 3) := by decide +kernel
theorem dX7_init_82 : decode cX7_init 82 = .ok (.aload_n 0, 1) := by decide +kernel
theorem dX7_init_83 : decode cX7_init 83 = .ok (.new 45, 3) := by decide +kernel
theorem dX7_init_86 : decode cX7_init 86 = .ok (.dup, 1) := by decide +kernel
theorem dX7_init_87 : decode cX7_init 87 = .ok (.new 22, 3) := by decide +kernel
theorem dX7_init_90 : decode cX7_init 90 = .ok (.dup, 1) := by decide +kernel
theorem dX7_init_91 : decode cX7_init 91 = .ok (.aload_n 0, 1) := by decide +kernel
theorem dX7_init_92 : decode cX7_init 92 = .ok (.getfield 16, 3) := by decide +kernel
theorem dX7_init_95 : decode cX7_init 95 = .ok (.invokespecial 24, 3) := by decide +kernel
theorem dX7_init_98 : decode cX7_init 98 = .ok (.invokespecial 47, 3) := by decide +kernel
theorem dX7_init_101 : decode cX7_init 101 = .ok (.putfield 50, 3) := by decide +kernel
theorem dX7_init_104 : decode cX7_init 104 = .ok (.aload_n 0, 1) := by decide +kernel
theorem dX7_init_105 : decode cX7_init 105 = .ok (.iconst 4, 1) := by decide +kernel
theorem dX7_init_106 : decode cX7_init 106 = .ok (.anewarray 54, 3) := by decide +kernel
theorem dX7_init_109 : decode cX7_init 109 = .ok (.putfield 56, 3) := by decide +kernel
theorem dX7_init_112 : decode cX7_init 112 = .ok (.iconst 0, 1) := by decide +kernel
theorem dX7_init_113 : decode cX7_init 113 = .ok (.istore_n 1, 1) := by decide +kernel
theorem dX7_init_114 : decode cX7_init 114 = .ok (.iload_n 1, 1) := by decide +kernel
theorem dX7_init_115 : decode cX7_init 115 = .ok (.iconst 4, 1) := by decide +kernel
theorem dX7_init_116 : decode cX7_init 116 = .ok (.if_icmp .ge 22, 3) := by decide +kernel
theorem dX7_init_119 : decode cX7_init 119 = .ok (.aload_n 0, 1) := by decide +kernel
theorem dX7_init_120 : decode cX7_init 120 = .ok (.getfield 56, 3) := by decide +kernel
theorem dX7_init_123 : decode cX7_init 123 = .ok (.iload_n 1, 1) := by decide +kernel
theorem dX7_init_124 : decode cX7_init 124 = .ok (.new 54, 3) := by decide +kernel
theorem dX7_init_127 : decode cX7_init 127 = .ok (.dup, 1) := by decide +kernel
theorem dX7_init_128 : decode cX7_init 128 = .ok (.invokespecial 60, 3) := by decide +kernel
theorem dX7_init_131 : decode cX7_init 131 = .ok (.aastore, 1) := by decide +kernel
theorem dX7_init_132 : decode cX7_init 132 = .ok (.iinc 1 1, 3) := by decide +kernel
theorem dX7_init_135 : decode cX7_init 135 = .ok (.goto (-21), 3) := by decide +kernel
theorem dX7_init_138 : decode cX7_init 138 = .ok (.aload_n 0, 1) := by decide +kernel
theorem dX7_init_139 : decode cX7_init 139 = .ok (.iconst 0, 1) := by decide +kernel
theorem dX7_init_140 : decode cX7_init 140 = .ok (.putfield 61, 3) := by decide +kernel
theorem dX7_init_143 : decode cX7_init 143 = .ok (.return_, 1) := by decide +kernel
set_option maxRecDepth 20000 in
theorem ggX7_files_X0_addFiles : GoodIn wsX7_files wsX0_addFiles := goodIn_r _ [6, 7, 8, 9, 10, 11, 12, 13, 14, 15, 16, 17, 18, 19, 20, 21, 22, 23, 24, 25, 35, 36, 37, 38, 39, 40, 41, 42, 43, 44, 45, 46] (by decide +kernel) (by decide +kernel)
set_option maxRecDepth 20000 in
theorem gX7_files_X0_addFiles : GoodIn wsX7_files (wsV RX7 65 RX0 yX0_addFiles wsX0_addFiles) := goodIn_app (goodIn_of _ (by decide +kernel)) ggX7_files_X0_addFiles
theorem dX7_files_0 : decode cX7_files 0 = .ok (.aload_n 0, 1) := by decide +kernel
theorem dX7_files_1 : decode cX7_files 1 = .ok (.getfield 27, 3) := by decide +kernel
theorem dX7_files_4 : decode cX7_files 4 = .ok (.iload_n 1, 1) := by decide +kernel
theorem dX7_files_5 : decode cX7_files 5 = .ok (.invokevirtual 65, 3) := by decide +kernel
theorem dX7_files_8 : decode cX7_files 8 = .ok (.ireturn, 1) := by decide +kernel
set_option maxRecDepth 20000 in
theorem ggX7_write_X0_writeSlot : GoodIn wsX7_write wsX0_writeSlot := goodIn_r _ [6, 7, 8, 9, 10, 11, 12, 13, 14, 15, 16, 17, 18, 19, 20, 21, 22, 23, 24, 25, 5, 26, 27, 28, 29, 30, 31, 32, 33, 34, 35, 36, 37, 38, 39, 40, 41, 42, 43, 44, 45, 46, 47, 48, 49, 50, 51, 52, 53, 54, 55, 56, 57, 58, 59, 60, 61, 62, 63, 64, 65, 66, 67, 68, 69, 70, 71, 72, 73, 74, 75, 76, 77, 78, 79, 80, 90, 91, 92, 93, 94, 95, 96, 97, 98, 99, 100, 101] (by decide +kernel) (by decide +kernel)
set_option maxRecDepth 20000 in
theorem gX7_write_X0_writeSlot : GoodIn wsX7_write (wsV RX7 69 RX0 yX0_writeSlot wsX0_writeSlot) := goodIn_app (goodIn_of _ (by decide +kernel)) ggX7_write_X0_writeSlot
theorem dX7_write_0 : decode cX7_write 0 = .ok (.aload_n 0, 1) := by decide +kernel
theorem dX7_write_1 : decode cX7_write 1 = .ok (.getfield 27, 3) := by decide +kernel
theorem dX7_write_4 : decode cX7_write 4 = .ok (.iload_n 1, 1) := by decide +kernel
theorem dX7_write_5 : decode cX7_write 5 = .ok (.iload_n 2, 1) := by decide +kernel
theorem dX7_write_6 : decode cX7_write 6 = .ok (.iload_n 3, 1) := by decide +kernel
theorem dX7_write_7 : decode cX7_write 7 = .ok (.invokevirtual 69, 3) := by decide +kernel
theorem dX7_write_10 : decode cX7_write 10 = .ok (.ireturn, 1) := by decide +kernel
set_option maxRecDepth 20000 in
theorem ggX7_erase_X0_eraseSlot : GoodIn wsX7_erase wsX0_eraseSlot := goodIn_r _ [6, 7, 8, 9, 10, 11, 12, 13, 14, 15, 16, 17, 18, 19, 20, 21, 22, 23, 24, 25, 26, 27, 28, 29, 5, 30, 31, 32, 33, 34, 35, 36, 37, 38, 39, 40, 41, 42, 43, 44, 45, 46, 47, 48, 49, 50, 51, 52, 53, 54, 55, 65, 66, 67, 68, 69, 70, 71, 72, 73, 74, 75, 76] (by decide +kernel) (by decide +kernel)
set_option maxRecDepth 20000 in
theorem gX7_erase_X0_eraseSlot : GoodIn wsX7_erase (wsV RX7 73 RX0 yX0_eraseSlot wsX0_eraseSlot) := goodIn_app (goodIn_of _ (by decide +kernel)) ggX7_erase_X0_eraseSlot
theorem dX7_erase_0 : decode cX7_erase 0 = .ok (.aload_n 0, 1) := by decide +kernel
theorem dX7_erase_1 : decode cX7_erase 1 = .ok (.getfield 27, 3) := by decide +kernel
theorem dX7_erase_4 : decode cX7_erase 4 = .ok (.iload_n 1, 1) := by decide +kernel
theorem dX7_erase_5 : decode cX7_erase 5 = .ok (.iload_n 2, 1) := by decide +kernel
theorem dX7_erase_6 : decode cX7_erase 6 = .ok (.invokevirtual 73, 3) := by decide +kernel
theorem dX7_erase_9 : decode cX7_erase 9 = .ok (.ireturn, 1) := by decide +kernel
set_option maxRecDepth 20000 in
theorem ggX7_snap_X0_addSnapshot : GoodIn wsX7_snap wsX0_addSnapshot := goodIn_r _ [6, 7, 8, 9, 10, 11, 12, 13, 14, 15, 16, 17, 18, 19, 20, 21, 22, 23, 24, 25, 26, 27, 28, 29, 30, 31, 32, 33, 34, 35, 36, 37, 38, 39, 40, 41, 42, 43, 44, 45, 46, 47, 48, 49, 50, 51, 52, 53, 54, 55, 56, 57, 58, 59, 60, 61, 62, 63, 64, 65, 66, 67, 77, 78, 79, 80, 81, 82, 83, 84, 85, 86, 87, 88] (by decide +kernel) (by decide +kernel)
set_option maxRecDepth 20000 in
theorem gX7_snap_X0_addSnapshot : GoodIn wsX7_snap (wsV RX7 77 RX0 yX0_addSnapshot wsX0_addSnapshot) := goodIn_app (goodIn_of _ (by decide +kernel)) ggX7_snap_X0_addSnapshot
theorem dX7_snap_0 : decode cX7_snap 0 = .ok (.aload_n 0, 1) := by decide +kernel
theorem dX7_snap_1 : decode cX7_snap 1 = .ok (.getfield 27, 3) := by decide +kernel
theorem dX7_snap_4 : decode cX7_snap 4 = .ok (.iload_n 1, 1) := by decide +kernel
theorem dX7_snap_5 : decode cX7_snap 5 = .ok (.iload_n 2, 1) := by decide +kernel
theorem dX7_snap_6 : decode cX7_snap 6 = .ok (.invokevirtual 77, 3) := by decide +kernel
theorem dX7_snap_9 : decode cX7_snap 9 = .ok (.ireturn, 1) := by decide +kernel
set_option maxRecDepth 20000 in
theorem ggX7_tag_X0_changeTags : GoodIn wsX7_tag wsX0_changeTags := goodIn_r _ [6, 7, 8, 9, 10, 11, 12, 13, 14, 15, 16, 17, 18, 19, 20, 21, 22, 23, 24, 25, 26, 27, 28, 29, 30, 40, 41, 42, 43, 44, 45, 46, 47, 48, 49, 50, 51] (by decide +kernel) (by decide +kernel)
set_option maxRecDepth 20000 in
theorem gX7_tag_X0_changeTags : GoodIn wsX7_tag (wsV RX7 80 RX0 yX0_changeTags wsX0_changeTags) := goodIn_app (goodIn_of _ (by decide +kernel)) ggX7_tag_X0_changeTags
theorem dX7_tag_0 : decode cX7_tag 0 = .ok (.aload_n 0, 1) := by decide +kernel
theorem dX7_tag_1 : decode cX7_tag 1 = .ok (.getfield 27, 3) := by decide +kernel
theorem dX7_tag_4 : decode cX7_tag 4 = .ok (.iload_n 1, 1) := by decide +kernel
theorem dX7_tag_5 : decode cX7_tag 5 = .ok (.iload_n 2, 1) := by decide +kernel
theorem dX7_tag_6 : decode cX7_tag 6 = .ok (.invokevirtual 80, 3) := by decide +kernel
theorem dX7_tag_9 : decode cX7_tag 9 = .ok (.ireturn, 1) := by decide +kernel
set_option maxRecDepth 20000 in
theorem ggX7_mark_X0_addBookmark : GoodIn wsX7_mark wsX0_addBookmark := goodIn_r _ [6, 7, 8, 9, 10, 11, 12, 13, 14, 15, 16, 17, 18, 19, 20, 21, 22, 23, 24, 25, 26, 27, 28, 29, 30, 40, 41, 42, 43, 44, 45, 46, 47, 48, 49, 50, 51] (by decide +kernel) (by decide +kernel)
set_option maxRecDepth 20000 in
theorem gX7_mark_X0_addBookmark : GoodIn wsX7_mark (wsV RX7 83 RX0 yX0_addBookmark wsX0_addBookmark) := goodIn_app (goodIn_of _ (by decide +kernel)) ggX7_mark_X0_addBookmark
theorem dX7_mark_0 : decode cX7_mark 0 = .ok (.aload_n 0, 1) := by decide +kernel
theorem dX7_mark_1 : decode cX7_mark 1 = .ok (.getfield 27, 3) := by decide +kernel
theorem dX7_mark_4 : decode cX7_mark 4 = .ok (.iload_n 1, 1) := by decide +kernel
theorem dX7_mark_5 : decode cX7_mark 5 = .ok (.invokevirtual 83, 3) := by decide +kernel
theorem dX7_mark_8 : decode cX7_mark 8 = .ok (.ireturn, 1) := by decide +kernel
set_option maxRecDepth 20000 in
theorem ggX7_remove_X0_removeThing : GoodIn wsX7_remove wsX0_removeThing := goodIn_r _ [6, 7, 8, 9, 10, 11, 12, 13, 14, 15, 16, 17, 18, 19, 20, 21, 22, 23, 24, 25, 26, 27, 28, 29, 30, 31, 32, 33, 34, 35, 36, 37, 38, 39, 5, 40, 41, 42, 43, 44, 45, 46, 47, 48, 49, 50, 51, 52, 53, 54, 55, 56, 57, 58, 59, 60, 61, 62, 63, 64, 65, 66, 67, 68, 69, 70, 71, 72, 73, 74, 75, 76, 77, 78, 79, 80, 81, 82, 83, 84, 85, 86, 87, 88, 89, 90, 91, 101, 102, 103, 104, 105, 106, 107, 108, 109, 110, 111, 112] (by decide +kernel) (by decide +kernel)
set_option maxRecDepth 20000 in
theorem gX7_remove_X0_removeThing : GoodIn wsX7_remove (wsV RX7 86 RX0 yX0_removeThing wsX0_removeThing) := goodIn_app (goodIn_of _ (by decide +kernel)) ggX7_remove_X0_removeThing
theorem dX7_remove_0 : decode cX7_remove 0 = .ok (.aload_n 0, 1) := by decide +kernel
theorem dX7_remove_1 : decode cX7_remove 1 = .ok (.getfield 27, 3) := by decide +kernel
theorem dX7_remove_4 : decode cX7_remove 4 = .ok (.iload_n 1, 1) := by decide +kernel
theorem dX7_remove_5 : decode cX7_remove 5 = .ok (.invokevirtual 86, 3) := by decide +kernel
theorem dX7_remove_8 : decode cX7_remove 8 = .ok (.ireturn, 1) := by decide +kernel
set_option maxRecDepth 20000 in
theorem ggX7_fork_X0_addFork : GoodIn wsX7_fork wsX0_addFork := goodIn_r _ [6, 7, 8, 9, 10, 11, 12, 13, 14, 15, 16, 17, 18, 19, 20, 21, 22, 23, 24, 25, 26, 27, 28, 29, 30, 31, 32, 33, 34, 35, 36, 37, 38, 39, 40, 41, 42, 43, 44, 45, 46, 47, 48, 49, 59, 60, 61, 62, 63, 64, 65, 66, 67, 68, 69, 70] (by decide +kernel) (by decide +kernel)
set_option maxRecDepth 20000 in
theorem gX7_fork_X0_addFork : GoodIn wsX7_fork (wsV RX7 89 RX0 yX0_addFork wsX0_addFork) := goodIn_app (goodIn_of _ (by decide +kernel)) ggX7_fork_X0_addFork
theorem dX7_fork_0 : decode cX7_fork 0 = .ok (.aload_n 0, 1) := by decide +kernel
theorem dX7_fork_1 : decode cX7_fork 1 = .ok (.getfield 27, 3) := by decide +kernel
theorem dX7_fork_4 : decode cX7_fork 4 = .ok (.iload_n 1, 1) := by decide +kernel
theorem dX7_fork_5 : decode cX7_fork 5 = .ok (.invokevirtual 89, 3) := by decide +kernel
theorem dX7_fork_8 : decode cX7_fork 8 = .ok (.ireturn, 1) := by decide +kernel
set_option maxRecDepth 20000 in
theorem ggX7_promote_X0_promoteFiles : GoodIn wsX7_promote wsX0_promoteFiles := goodIn_r _ [6, 7, 8, 9, 10, 11, 12, 13, 14, 15, 16, 17, 18, 19, 20, 21, 22, 23, 24, 25, 26, 27, 28, 29, 30, 31, 32, 33, 34, 35, 36, 37, 38, 39, 40, 41, 42, 43, 44, 45, 46, 47, 48, 49, 50, 51, 52, 62, 63, 64, 65, 66, 67, 68, 69, 70, 71, 72, 73] (by decide +kernel) (by decide +kernel)
set_option maxRecDepth 20000 in
theorem gX7_promote_X0_promoteFiles : GoodIn wsX7_promote (wsV RX7 92 RX0 yX0_promoteFiles wsX0_promoteFiles) := goodIn_app (goodIn_of _ (by decide +kernel)) ggX7_promote_X0_promoteFiles
theorem dX7_promote_0 : decode cX7_promote 0 = .ok (.aload_n 0, 1) := by decide +kernel
theorem dX7_promote_1 : decode cX7_promote 1 = .ok (.getfield 27, 3) := by decide +kernel
theorem dX7_promote_4 : decode cX7_promote 4 = .ok (.iload_n 1, 1) := by decide +kernel
theorem dX7_promote_5 : decode cX7_promote 5 = .ok (.invokevirtual 92, 3) := by decide +kernel
theorem dX7_promote_8 : decode cX7_promote 8 = .ok (.ireturn, 1) := by decide +kernel
set_option maxRecDepth 20000 in
theorem ggX7_rollback_X0_rollFilesBack : GoodIn wsX7_rollback wsX0_rollFilesBack := goodIn_r _ [6, 7, 8, 9, 10, 11, 12, 13, 14, 15, 16, 17, 18, 19, 20, 21, 22, 23, 24, 25, 26, 27, 28, 29, 5, 30, 31, 32, 33, 34, 35, 36, 37, 38, 39, 40, 41, 42, 43, 44, 45, 46, 47, 48, 49, 50, 51, 52, 53, 54, 55, 56, 57, 58, 59, 60, 61, 71, 72, 73, 74, 75, 76, 77, 78, 79, 80, 81, 82] (by decide +kernel) (by decide +kernel)
set_option maxRecDepth 20000 in
theorem gX7_rollback_X0_rollFilesBack : GoodIn wsX7_rollback (wsV RX7 95 RX0 yX0_rollFilesBack wsX0_rollFilesBack) := goodIn_app (goodIn_of _ (by decide +kernel)) ggX7_rollback_X0_rollFilesBack
theorem dX7_rollback_0 : decode cX7_rollback 0 = .ok (.aload_n 0, 1) := by decide +kernel
theorem dX7_rollback_1 : decode cX7_rollback 1 = .ok (.getfield 27, 3) := by decide +kernel
theorem dX7_rollback_4 : decode cX7_rollback 4 = .ok (.iload_n 1, 1) := by decide +kernel
theorem dX7_rollback_5 : decode cX7_rollback 5 = .ok (.invokevirtual 95, 3) := by decide +kernel
theorem dX7_rollback_8 : decode cX7_rollback 8 = .ok (.ireturn, 1) := by decide +kernel
set_option maxRecDepth 20000 in
theorem ggX7_tick_X0_passTime : GoodIn wsX7_tick wsX0_passTime := goodIn_r _ [6, 7, 8, 9, 10, 11, 12, 13, 14, 15, 16, 17, 18, 28, 29, 30, 31, 32, 33, 34, 35, 36, 37, 38, 39] (by decide +kernel) (by decide +kernel)
set_option maxRecDepth 20000 in
theorem gX7_tick_X0_passTime : GoodIn wsX7_tick (wsV RX7 98 RX0 yX0_passTime wsX0_passTime) := goodIn_app (goodIn_of _ (by decide +kernel)) ggX7_tick_X0_passTime
theorem dX7_tick_0 : decode cX7_tick 0 = .ok (.aload_n 0, 1) := by decide +kernel
theorem dX7_tick_1 : decode cX7_tick 1 = .ok (.getfield 27, 3) := by decide +kernel
theorem dX7_tick_4 : decode cX7_tick 4 = .ok (.invokevirtual 98, 3) := by decide +kernel
theorem dX7_tick_7 : decode cX7_tick 7 = .ok (.ireturn, 1) := by decide +kernel
set_option maxRecDepth 20000 in
theorem ggX7_told_X6_tellThing : GoodIn wsX7_told wsX6_tellThing := goodIn_r _ [6, 7, 8, 9, 10, 11, 12, 13, 14, 15, 16, 17, 18, 19, 20, 21, 22, 23, 24, 25, 26, 27, 28, 29, 30, 31, 32, 33, 34, 35, 36, 37, 38, 39, 40, 41, 42, 43, 44, 45, 46, 47, 48, 49, 50, 51, 52, 53, 54, 55, 56, 57, 5, 58, 59, 60, 61, 62, 63, 64, 65, 66, 67, 68, 69, 70, 71, 72, 73, 74, 84, 85, 86, 87, 88, 89, 90, 91, 92, 93, 94, 95, 96] (by decide +kernel) (by decide +kernel)
set_option maxRecDepth 20000 in
theorem gX7_told_X6_tellThing : GoodIn wsX7_told (wsV RX7 102 RX6 yX6_tellThing wsX6_tellThing) := goodIn_app (goodIn_of _ (by decide +kernel)) ggX7_told_X6_tellThing
theorem dX7_told_0 : decode cX7_told 0 = .ok (.aload_n 0, 1) := by decide +kernel
theorem dX7_told_1 : decode cX7_told 1 = .ok (.getfield 34, 3) := by decide +kernel
theorem dX7_told_4 : decode cX7_told 4 = .ok (.iload_n 1, 1) := by decide +kernel
theorem dX7_told_5 : decode cX7_told 5 = .ok (.iload_n 2, 1) := by decide +kernel
theorem dX7_told_6 : decode cX7_told 6 = .ok (.invokevirtual 102, 3) := by decide +kernel
theorem dX7_told_9 : decode cX7_told 9 = .ok (.ireturn, 1) := by decide +kernel
set_option maxRecDepth 20000 in
theorem ggX7_slot_X6_tellSlot : GoodIn wsX7_slot wsX6_tellSlot := goodIn_r _ [6, 7, 8, 9, 10, 11, 12, 13, 14, 15, 16, 17, 18, 19, 20, 21, 22, 23, 24, 25, 26, 36, 37, 38, 39, 40, 41, 42, 43, 44, 45, 46, 47, 48] (by decide +kernel) (by decide +kernel)
set_option maxRecDepth 20000 in
theorem gX7_slot_X6_tellSlot : GoodIn wsX7_slot (wsV RX7 105 RX6 yX6_tellSlot wsX6_tellSlot) := goodIn_app (goodIn_of _ (by decide +kernel)) ggX7_slot_X6_tellSlot
theorem dX7_slot_0 : decode cX7_slot 0 = .ok (.aload_n 0, 1) := by decide +kernel
theorem dX7_slot_1 : decode cX7_slot 1 = .ok (.getfield 34, 3) := by decide +kernel
theorem dX7_slot_4 : decode cX7_slot 4 = .ok (.iload_n 1, 1) := by decide +kernel
theorem dX7_slot_5 : decode cX7_slot 5 = .ok (.iload_n 2, 1) := by decide +kernel
theorem dX7_slot_6 : decode cX7_slot 6 = .ok (.invokevirtual 105, 3) := by decide +kernel
theorem dX7_slot_9 : decode cX7_slot 9 = .ok (.ireturn, 1) := by decide +kernel
set_option maxRecDepth 20000 in
theorem ggX7_block_X6_tellBlock : GoodIn wsX7_block wsX6_tellBlock := goodIn_r _ [6, 7, 8, 9, 10, 11, 12, 13, 14, 15, 16, 17, 18, 19, 20, 21, 22, 23, 24, 25, 26, 27, 28, 29, 30, 31, 32, 33, 34, 35, 36, 37, 38, 39, 40, 41, 42, 52, 53, 54, 55, 56, 57, 58, 59, 60, 61, 62, 63, 64, 65, 66] (by decide +kernel) (by decide +kernel)
set_option maxRecDepth 20000 in
theorem gX7_block_X6_tellBlock : GoodIn wsX7_block (wsV RX7 108 RX6 yX6_tellBlock wsX6_tellBlock) := goodIn_app (goodIn_of _ (by decide +kernel)) ggX7_block_X6_tellBlock
theorem dX7_block_0 : decode cX7_block 0 = .ok (.aload_n 0, 1) := by decide +kernel
theorem dX7_block_1 : decode cX7_block 1 = .ok (.getfield 34, 3) := by decide +kernel
theorem dX7_block_4 : decode cX7_block 4 = .ok (.iload_n 1, 1) := by decide +kernel
theorem dX7_block_5 : decode cX7_block 5 = .ok (.iload_n 2, 1) := by decide +kernel
theorem dX7_block_6 : decode cX7_block 6 = .ok (.invokevirtual 108, 3) := by decide +kernel
theorem dX7_block_9 : decode cX7_block 9 = .ok (.ireturn, 1) := by decide +kernel
set_option maxRecDepth 20000 in
theorem ggX7_taken_X6_tellTaken : GoodIn wsX7_taken wsX6_tellTaken := goodIn_r _ [6, 7, 8, 9, 10, 11, 12, 13, 14, 15, 16, 17, 18, 19, 20, 21, 22, 23, 24, 25, 26, 36, 37, 38, 39, 40, 41, 42, 43, 44, 45, 46, 47, 48] (by decide +kernel) (by decide +kernel)
set_option maxRecDepth 20000 in
theorem gX7_taken_X6_tellTaken : GoodIn wsX7_taken (wsV RX7 111 RX6 yX6_tellTaken wsX6_tellTaken) := goodIn_app (goodIn_of _ (by decide +kernel)) ggX7_taken_X6_tellTaken
theorem dX7_taken_0 : decode cX7_taken 0 = .ok (.aload_n 0, 1) := by decide +kernel
theorem dX7_taken_1 : decode cX7_taken 1 = .ok (.getfield 34, 3) := by decide +kernel
theorem dX7_taken_4 : decode cX7_taken 4 = .ok (.iload_n 1, 1) := by decide +kernel
theorem dX7_taken_5 : decode cX7_taken 5 = .ok (.iload_n 2, 1) := by decide +kernel
theorem dX7_taken_6 : decode cX7_taken 6 = .ok (.invokevirtual 111, 3) := by decide +kernel
theorem dX7_taken_9 : decode cX7_taken 9 = .ok (.ireturn, 1) := by decide +kernel
set_option maxRecDepth 20000 in
theorem ggX7_dead_X6_tellDead : GoodIn wsX7_dead wsX6_tellDead := goodIn_r _ [6, 7, 8, 9, 10, 11, 12, 13, 14, 15, 16, 17, 18, 19, 20, 21, 22, 23, 24, 5, 25, 26, 27, 28, 29, 30, 31, 32, 33, 34, 35, 36, 37, 38, 39, 40, 41, 42, 43, 44, 45, 46, 47, 48, 58, 59, 60, 61, 62, 63, 64, 65, 66, 67, 68, 69, 70] (by decide +kernel) (by decide +kernel)
set_option maxRecDepth 20000 in
theorem gX7_dead_X6_tellDead : GoodIn wsX7_dead (wsV RX7 114 RX6 yX6_tellDead wsX6_tellDead) := goodIn_app (goodIn_of _ (by decide +kernel)) ggX7_dead_X6_tellDead
theorem dX7_dead_0 : decode cX7_dead 0 = .ok (.aload_n 0, 1) := by decide +kernel
theorem dX7_dead_1 : decode cX7_dead 1 = .ok (.getfield 34, 3) := by decide +kernel
theorem dX7_dead_4 : decode cX7_dead 4 = .ok (.iload_n 1, 1) := by decide +kernel
theorem dX7_dead_5 : decode cX7_dead 5 = .ok (.iload_n 2, 1) := by decide +kernel
theorem dX7_dead_6 : decode cX7_dead 6 = .ok (.invokevirtual 114, 3) := by decide +kernel
theorem dX7_dead_9 : decode cX7_dead 9 = .ok (.ireturn, 1) := by decide +kernel
set_option maxRecDepth 20000 in
theorem ggX7_deadList_X6_sizeOfDeadList : GoodIn wsX7_deadList wsX6_sizeOfDeadList := goodIn_r _ [6, 7, 8, 9, 10, 11, 12, 13, 14, 15, 16, 17, 18, 19, 20, 21, 22, 23, 24, 25, 26, 27, 28, 29, 30, 31, 32, 33, 34, 35, 36, 5, 37, 38, 39, 40, 41, 42, 43, 44, 45, 46, 47, 48, 49, 50, 51, 52, 62, 63, 64, 65, 66, 67, 68, 69, 70, 71, 72, 73, 74] (by decide +kernel) (by decide +kernel)
set_option maxRecDepth 20000 in
theorem gX7_deadList_X6_sizeOfDeadList : GoodIn wsX7_deadList (wsV RX7 117 RX6 yX6_sizeOfDeadList wsX6_sizeOfDeadList) := goodIn_app (goodIn_of _ (by decide +kernel)) ggX7_deadList_X6_sizeOfDeadList
theorem dX7_deadList_0 : decode cX7_deadList 0 = .ok (.aload_n 0, 1) := by decide +kernel
theorem dX7_deadList_1 : decode cX7_deadList 1 = .ok (.getfield 34, 3) := by decide +kernel
theorem dX7_deadList_4 : decode cX7_deadList 4 = .ok (.iload_n 1, 1) := by decide +kernel
theorem dX7_deadList_5 : decode cX7_deadList 5 = .ok (.iload_n 2, 1) := by decide +kernel
theorem dX7_deadList_6 : decode cX7_deadList 6 = .ok (.invokevirtual 117, 3) := by decide +kernel
theorem dX7_deadList_9 : decode cX7_deadList 9 = .ok (.lreturn, 1) := by decide +kernel
set_option maxRecDepth 20000 in
theorem ggX7_space_X4_isHolder : GoodIn wsX7_space wsX4_isHolder := goodIn_r _ [7, 8, 9, 10, 6, 11, 12, 36, 37, 38, 39, 40, 41, 42, 43, 44, 45, 46] (by decide +kernel) (by decide +kernel)
set_option maxRecDepth 20000 in
theorem gX7_space_X4_isHolder : GoodIn wsX7_space (wsV RX7 121 RX4 yX4_isHolder wsX4_isHolder) := goodIn_app (goodIn_of _ (by decide +kernel)) ggX7_space_X4_isHolder
set_option maxRecDepth 20000 in
theorem ggX7_space_X4_spaceOf : GoodIn wsX7_space wsX4_spaceOf := goodIn_r _ [16, 17, 18, 19, 6, 20, 21, 22, 23, 24, 25, 26, 36, 37, 38, 39, 40, 41, 42, 43, 44, 45, 46] (by decide +kernel) (by decide +kernel)
set_option maxRecDepth 20000 in
theorem gX7_space_X4_spaceOf : GoodIn wsX7_space (wsV RX7 125 RX4 yX4_spaceOf wsX4_spaceOf) := goodIn_app (goodIn_of _ (by decide +kernel)) ggX7_space_X4_spaceOf
theorem dX7_space_0 : decode cX7_space 0 = .ok (.aload_n 0, 1) := by decide +kernel
theorem dX7_space_1 : decode cX7_space 1 = .ok (.getfield 10, 3) := by decide +kernel
theorem dX7_space_4 : decode cX7_space 4 = .ok (.iload_n 1, 1) := by decide +kernel
theorem dX7_space_5 : decode cX7_space 5 = .ok (.invokevirtual 121, 3) := by decide +kernel
theorem dX7_space_8 : decode cX7_space 8 = .ok (.ifCond .eq 14, 3) := by decide +kernel
theorem dX7_space_11 : decode cX7_space 11 = .ok (.aload_n 0, 1) := by decide +kernel
theorem dX7_space_12 : decode cX7_space 12 = .ok (.getfield 10, 3) := by decide +kernel
theorem dX7_space_15 : decode cX7_space 15 = .ok (.iload_n 1, 1) := by decide +kernel
theorem dX7_space_16 : decode cX7_space 16 = .ok (.invokevirtual 125, 3) := by decide +kernel
theorem dX7_space_19 : decode cX7_space 19 = .ok (.goto 6, 3) := by decide +kernel
theorem dX7_space_22 : decode cX7_space 22 = .ok (.ldc2_w 129, 3) := by decide +kernel
theorem dX7_space_25 : decode cX7_space 25 = .ok (.lreturn, 1) := by decide +kernel
set_option maxRecDepth 20000 in
theorem ggX7_alone_X4_isHolder : GoodIn wsX7_alone wsX4_isHolder := goodIn_r _ [8, 9, 10, 11, 7, 12, 13, 51, 52, 53, 54, 55, 56, 57, 58, 59, 60, 61] (by decide +kernel) (by decide +kernel)
set_option maxRecDepth 20000 in
theorem gX7_alone_X4_isHolder : GoodIn wsX7_alone (wsV RX7 121 RX4 yX4_isHolder wsX4_isHolder) := goodIn_app (goodIn_of _ (by decide +kernel)) ggX7_alone_X4_isHolder
set_option maxRecDepth 20000 in
theorem ggX7_alone_X6_sizeHeldOnlyBy : GoodIn wsX7_alone wsX6_sizeHeldOnlyBy := goodIn_r _ [18, 19, 20, 21, 22, 23, 24, 25, 26, 27, 28, 29, 30, 7, 31, 32, 33, 34, 35, 36, 37, 38, 39, 40, 41, 62, 63, 64, 65, 51, 52, 53, 54, 55, 56, 57, 58, 59, 60, 61] (by decide +kernel) (by decide +kernel)
set_option maxRecDepth 20000 in
theorem gX7_alone_X6_sizeHeldOnlyBy : GoodIn wsX7_alone (wsV RX7 131 RX6 yX6_sizeHeldOnlyBy wsX6_sizeHeldOnlyBy) := goodIn_app (goodIn_of _ (by decide +kernel)) ggX7_alone_X6_sizeHeldOnlyBy
theorem dX7_alone_0 : decode cX7_alone 0 = .ok (.aload_n 0, 1) := by decide +kernel
theorem dX7_alone_1 : decode cX7_alone 1 = .ok (.getfield 10, 3) := by decide +kernel
theorem dX7_alone_4 : decode cX7_alone 4 = .ok (.iload_n 1, 1) := by decide +kernel
theorem dX7_alone_5 : decode cX7_alone 5 = .ok (.invokevirtual 121, 3) := by decide +kernel
theorem dX7_alone_8 : decode cX7_alone 8 = .ok (.ifCond .eq 16, 3) := by decide +kernel
theorem dX7_alone_11 : decode cX7_alone 11 = .ok (.aload_n 0, 1) := by decide +kernel
theorem dX7_alone_12 : decode cX7_alone 12 = .ok (.getfield 34, 3) := by decide +kernel
theorem dX7_alone_15 : decode cX7_alone 15 = .ok (.iconst 1, 1) := by decide +kernel
theorem dX7_alone_16 : decode cX7_alone 16 = .ok (.iload_n 1, 1) := by decide +kernel
theorem dX7_alone_17 : decode cX7_alone 17 = .ok (.ishl, 1) := by decide +kernel
theorem dX7_alone_18 : decode cX7_alone 18 = .ok (.invokevirtual 131, 3) := by decide +kernel
theorem dX7_alone_21 : decode cX7_alone 21 = .ok (.goto 6, 3) := by decide +kernel
theorem dX7_alone_24 : decode cX7_alone 24 = .ok (.ldc2_w 129, 3) := by decide +kernel
theorem dX7_alone_27 : decode cX7_alone 27 = .ok (.lreturn, 1) := by decide +kernel
set_option maxRecDepth 20000 in
theorem ggX7_range_X6_sizeOfRange : GoodIn wsX7_range wsX6_sizeOfRange := goodIn_r _ [6, 7, 8, 9, 10, 11, 12, 13, 14, 15, 16, 17, 18, 19, 20, 21, 5, 22, 23, 24, 25, 26, 27, 28, 29, 30, 31, 32, 33, 34, 35, 36, 37, 38, 39, 40, 41, 42, 43, 44, 45, 46, 47, 48, 49, 59, 60, 61, 62, 63, 64, 65, 66, 67, 68, 69, 70, 71, 72, 73] (by decide +kernel) (by decide +kernel)
set_option maxRecDepth 20000 in
theorem gX7_range_X6_sizeOfRange : GoodIn wsX7_range (wsV RX7 134 RX6 yX6_sizeOfRange wsX6_sizeOfRange) := goodIn_app (goodIn_of _ (by decide +kernel)) ggX7_range_X6_sizeOfRange
theorem dX7_range_0 : decode cX7_range 0 = .ok (.aload_n 0, 1) := by decide +kernel
theorem dX7_range_1 : decode cX7_range 1 = .ok (.getfield 34, 3) := by decide +kernel
theorem dX7_range_4 : decode cX7_range 4 = .ok (.iload_n 1, 1) := by decide +kernel
theorem dX7_range_5 : decode cX7_range 5 = .ok (.iload_n 2, 1) := by decide +kernel
theorem dX7_range_6 : decode cX7_range 6 = .ok (.invokevirtual 134, 3) := by decide +kernel
theorem dX7_range_9 : decode cX7_range 9 = .ok (.lreturn, 1) := by decide +kernel
set_option maxRecDepth 20000 in
theorem ggX7_since_X6_sizeSince : GoodIn wsX7_since wsX6_sizeSince := goodIn_r _ [6, 7, 8, 9, 10, 11, 12, 13, 14, 15, 16, 17, 18, 19, 20, 21, 22, 23, 24, 25, 26, 27, 28, 29, 30, 31, 32, 33, 34, 35, 36, 37, 38, 39, 49, 50, 51, 52, 53, 54, 55, 56, 57, 58, 59, 60, 61] (by decide +kernel) (by decide +kernel)
set_option maxRecDepth 20000 in
theorem gX7_since_X6_sizeSince : GoodIn wsX7_since (wsV RX7 137 RX6 yX6_sizeSince wsX6_sizeSince) := goodIn_app (goodIn_of _ (by decide +kernel)) ggX7_since_X6_sizeSince
theorem dX7_since_0 : decode cX7_since 0 = .ok (.aload_n 0, 1) := by decide +kernel
theorem dX7_since_1 : decode cX7_since 1 = .ok (.getfield 34, 3) := by decide +kernel
theorem dX7_since_4 : decode cX7_since 4 = .ok (.iload_n 1, 1) := by decide +kernel
theorem dX7_since_5 : decode cX7_since 5 = .ok (.iload_n 2, 1) := by decide +kernel
theorem dX7_since_6 : decode cX7_since 6 = .ok (.invokevirtual 137, 3) := by decide +kernel
theorem dX7_since_9 : decode cX7_since 9 = .ok (.lreturn, 1) := by decide +kernel
set_option maxRecDepth 20000 in
theorem ggX7_common_X6_sizeInBoth : GoodIn wsX7_common wsX6_sizeInBoth := goodIn_r _ [6, 7, 8, 9, 10, 11, 12, 13, 14, 15, 16, 17, 18, 19, 20, 21, 22, 23, 24, 25, 26, 27, 28, 38, 39, 40, 41, 42, 43, 44, 45, 46, 47, 48, 49, 50] (by decide +kernel) (by decide +kernel)
set_option maxRecDepth 20000 in
theorem gX7_common_X6_sizeInBoth : GoodIn wsX7_common (wsV RX7 140 RX6 yX6_sizeInBoth wsX6_sizeInBoth) := goodIn_app (goodIn_of _ (by decide +kernel)) ggX7_common_X6_sizeInBoth
theorem dX7_common_0 : decode cX7_common 0 = .ok (.aload_n 0, 1) := by decide +kernel
theorem dX7_common_1 : decode cX7_common 1 = .ok (.getfield 34, 3) := by decide +kernel
theorem dX7_common_4 : decode cX7_common 4 = .ok (.iload_n 1, 1) := by decide +kernel
theorem dX7_common_5 : decode cX7_common 5 = .ok (.iload_n 2, 1) := by decide +kernel
theorem dX7_common_6 : decode cX7_common 6 = .ok (.invokevirtual 140, 3) := by decide +kernel
theorem dX7_common_9 : decode cX7_common 9 = .ok (.lreturn, 1) := by decide +kernel
set_option maxRecDepth 20000 in
theorem ggX7_most_X4_isFiles : GoodIn wsX7_most wsX4_isFiles := goodIn_r _ [8, 9, 10, 11, 7, 12, 13, 114, 115, 116, 117, 118, 119, 120, 121, 122, 123, 124] (by decide +kernel) (by decide +kernel)
set_option maxRecDepth 20000 in
theorem gX7_most_X4_isFiles : GoodIn wsX7_most (wsV RX7 143 RX4 yX4_isFiles wsX4_isFiles) := goodIn_app (goodIn_of _ (by decide +kernel)) ggX7_most_X4_isFiles
set_option maxRecDepth 20000 in
theorem ggX7_most_X1_mostFreed : GoodIn wsX7_most wsX1_mostFreed := goodIn_r _ [18, 19, 20, 21, 22, 23, 24, 25, 26, 17, 27, 28, 29, 30, 31, 32, 33, 34, 35, 36, 37, 38, 39, 40, 7, 41, 42, 43, 44, 45, 46, 47, 48, 49, 50, 51, 52, 53, 54, 55, 56, 57, 58, 59, 9, 10, 11, 12, 13, 60, 61, 62, 63, 64, 65, 66, 67, 68, 69, 70, 71, 72, 73, 74, 75, 76, 77, 78, 79, 80, 81, 82, 83, 84, 85, 86, 87, 88, 89, 90, 91, 92, 93, 94, 95, 96, 97, 98, 99, 100, 101, 102, 103, 104, 125, 126, 127, 128, 114, 115, 116, 117, 118, 119, 120, 121, 122, 123, 124, 129, 130] (by decide +kernel) (by decide +kernel)
set_option maxRecDepth 20000 in
theorem gX7_most_X1_mostFreed : GoodIn wsX7_most (wsV RX7 146 RX1 yX1_mostFreed wsX1_mostFreed) := goodIn_app (goodIn_of _ (by decide +kernel)) ggX7_most_X1_mostFreed
theorem dX7_most_0 : decode cX7_most 0 = .ok (.iload_n 2, 1) := by decide +kernel
theorem dX7_most_1 : decode cX7_most 1 = .ok (.ifCond .lt 20, 3) := by decide +kernel
theorem dX7_most_4 : decode cX7_most 4 = .ok (.iload_n 2, 1) := by decide +kernel
theorem dX7_most_5 : decode cX7_most 5 = .ok (.bipush 8, 2) := by decide +kernel
theorem dX7_most_7 : decode cX7_most 7 = .ok (.if_icmp .gt 14, 3) := by decide +kernel
theorem dX7_most_10 : decode cX7_most 10 = .ok (.aload_n 0, 1) := by decide +kernel
theorem dX7_most_11 : decode cX7_most 11 = .ok (.getfield 10, 3) := by decide +kernel
theorem dX7_most_14 : decode cX7_most 14 = .ok (.iload_n 1, 1) := by decide +kernel
theorem dX7_most_15 : decode cX7_most 15 = .ok (.invokevirtual 143, 3) := by decide +kernel
theorem dX7_most_18 : decode cX7_most 18 = .ok (.ifCond .ne 7, 3) := by decide +kernel
theorem dX7_most_21 : decode cX7_most 21 = .ok (.ldc2_w 129, 3) := by decide +kernel
theorem dX7_most_24 : decode cX7_most 24 = .ok (.lreturn, 1) := by decide +kernel
theorem dX7_most_25 : decode cX7_most 25 = .ok (.aload_n 0, 1) := by decide +kernel
theorem dX7_most_26 : decode cX7_most 26 = .ok (.getfield 41, 3) := by decide +kernel
theorem dX7_most_29 : decode cX7_most 29 = .ok (.iload_n 1, 1) := by decide +kernel
theorem dX7_most_30 : decode cX7_most 30 = .ok (.iload_n 2, 1) := by decide +kernel
theorem dX7_most_31 : decode cX7_most 31 = .ok (.invokevirtual 146, 3) := by decide +kernel
theorem dX7_most_34 : decode cX7_most 34 = .ok (.lreturn, 1) := by decide +kernel
set_option maxRecDepth 20000 in
theorem ggX7_fewest_X4_refusalAs : GoodIn wsX7_fewest wsX4_refusalAs := goodIn_r _ [7, 8, 9, 10, 6, 11, 12, 13, 14, 15, 16, 114, 115, 116, 117, 118, 119, 120, 121, 122, 123, 124] (by decide +kernel) (by decide +kernel)
set_option maxRecDepth 20000 in
theorem gX7_fewest_X4_refusalAs : GoodIn wsX7_fewest (wsV RX7 149 RX4 yX4_refusalAs wsX4_refusalAs) := goodIn_app (goodIn_of _ (by decide +kernel)) ggX7_fewest_X4_refusalAs
set_option maxRecDepth 20000 in
theorem ggX7_fewest_X1_fewestFor : GoodIn wsX7_fewest wsX1_fewestFor := goodIn_r _ [21, 22, 23, 24, 25, 20, 26, 27, 28, 29, 30, 31, 32, 33, 34, 35, 36, 37, 38, 39, 40, 6, 41, 42, 43, 44, 45, 46, 47, 48, 49, 50, 51, 52, 53, 54, 55, 56, 57, 58, 59, 13, 14, 15, 16, 12, 60, 61, 62, 63, 64, 65, 66, 67, 68, 69, 70, 71, 72, 73, 74, 75, 76, 77, 78, 79, 80, 81, 82, 83, 84, 85, 86, 87, 88, 89, 90, 91, 92, 93, 94, 95, 96, 97, 98, 99, 100, 101, 102, 103, 104, 125, 126, 127, 128, 114, 115, 116, 117, 118, 119, 120, 121, 122, 123, 124, 129, 130] (by decide +kernel) (by decide +kernel)
set_option maxRecDepth 20000 in
theorem gX7_fewest_X1_fewestFor : GoodIn wsX7_fewest (wsV RX7 152 RX1 yX1_fewestFor wsX1_fewestFor) := goodIn_app (goodIn_of _ (by decide +kernel)) ggX7_fewest_X1_fewestFor
theorem dX7_fewest_0 : decode cX7_fewest 0 = .ok (.aload_n 0, 1) := by decide +kernel
theorem dX7_fewest_1 : decode cX7_fewest 1 = .ok (.getfield 10, 3) := by decide +kernel
theorem dX7_fewest_4 : decode cX7_fewest 4 = .ok (.iload_n 1, 1) := by decide +kernel
theorem dX7_fewest_5 : decode cX7_fewest 5 = .ok (.iconst 0, 1) := by decide +kernel
theorem dX7_fewest_6 : decode cX7_fewest 6 = .ok (.invokevirtual 149, 3) := by decide +kernel
theorem dX7_fewest_9 : decode cX7_fewest 9 = .ok (.istore 4, 2) := by decide +kernel
theorem dX7_fewest_11 : decode cX7_fewest 11 = .ok (.iload 4, 2) := by decide +kernel
theorem dX7_fewest_13 : decode cX7_fewest 13 = .ok (.ifCond .eq 8, 3) := by decide +kernel
theorem dX7_fewest_16 : decode cX7_fewest 16 = .ok (.iload 4, 2) := by decide +kernel
theorem dX7_fewest_18 : decode cX7_fewest 18 = .ok (.goto 12, 3) := by decide +kernel
theorem dX7_fewest_21 : decode cX7_fewest 21 = .ok (.aload_n 0, 1) := by decide +kernel
theorem dX7_fewest_22 : decode cX7_fewest 22 = .ok (.getfield 41, 3) := by decide +kernel
theorem dX7_fewest_25 : decode cX7_fewest 25 = .ok (.iload_n 1, 1) := by decide +kernel
theorem dX7_fewest_26 : decode cX7_fewest 26 = .ok (.lload_n 2, 1) := by decide +kernel
theorem dX7_fewest_27 : decode cX7_fewest 27 = .ok (.invokevirtual 152, 3) := by decide +kernel
theorem dX7_fewest_30 : decode cX7_fewest 30 = .ok (.ireturn, 1) := by decide +kernel
set_option maxRecDepth 20000 in
theorem ggX7_expire_X0_removeExpired : GoodIn wsX7_expire wsX0_removeExpired := goodIn_r _ [6, 7, 8, 9, 10, 11, 12, 13, 14, 15, 16, 17, 18, 19, 20, 21, 22, 23, 24, 25, 26, 27, 28, 29, 30, 31, 32, 33, 34, 35, 36, 37, 38, 39, 40, 41, 42, 43, 44, 45, 46, 47, 48, 49, 50, 51, 52, 53, 54, 55, 56, 57, 58, 59, 60, 5, 61, 62, 63, 64, 65, 66, 67, 68, 69, 70, 71, 72, 73, 74, 75, 76, 77, 78, 79, 80, 81, 82, 83, 84, 85, 86, 87, 88, 89, 90, 91, 101, 102, 103, 104, 105, 106, 107, 108, 109, 110, 111, 112] (by decide +kernel) (by decide +kernel)
set_option maxRecDepth 20000 in
theorem gX7_expire_X0_removeExpired : GoodIn wsX7_expire (wsV RX7 156 RX0 yX0_removeExpired wsX0_removeExpired) := goodIn_app (goodIn_of _ (by decide +kernel)) ggX7_expire_X0_removeExpired
theorem dX7_expire_0 : decode cX7_expire 0 = .ok (.aload_n 0, 1) := by decide +kernel
theorem dX7_expire_1 : decode cX7_expire 1 = .ok (.getfield 27, 3) := by decide +kernel
theorem dX7_expire_4 : decode cX7_expire 4 = .ok (.iload_n 1, 1) := by decide +kernel
theorem dX7_expire_5 : decode cX7_expire 5 = .ok (.iload_n 2, 1) := by decide +kernel
theorem dX7_expire_6 : decode cX7_expire 6 = .ok (.iload_n 3, 1) := by decide +kernel
theorem dX7_expire_7 : decode cX7_expire 7 = .ok (.invokevirtual 156, 3) := by decide +kernel
theorem dX7_expire_10 : decode cX7_expire 10 = .ok (.ireturn, 1) := by decide +kernel
set_option maxRecDepth 20000 in
theorem ggX7_sheet_X7_isSheet : GoodIn wsX7_sheet wsX7_isSheet := goodIn_r _ [5] (by decide +kernel) (by decide +kernel)
set_option maxRecDepth 20000 in
theorem gX7_sheet_X7_isSheet : GoodIn wsX7_sheet (va_wsS RX7 159 yX7_isSheet wsX7_isSheet) := goodIn_app (goodIn_of _ (by decide +kernel)) ggX7_sheet_X7_isSheet
set_option maxRecDepth 20000 in
theorem ggX7_sheet_X5_layAside : GoodIn wsX7_sheet wsX5_layAside := goodIn_r _ [10, 11, 12, 34, 35, 36] (by decide +kernel) (by decide +kernel)
set_option maxRecDepth 20000 in
theorem gX7_sheet_X5_layAside : GoodIn wsX7_sheet (wsV RX7 162 RX5 yX5_layAside wsX5_layAside) := goodIn_app (goodIn_of _ (by decide +kernel)) ggX7_sheet_X5_layAside
set_option maxRecDepth 20000 in
theorem ggX7_sheet_X5_layOut : GoodIn wsX7_sheet wsX5_layOut := goodIn_r _ [16, 11, 17, 18, 19, 20, 21, 22, 23, 12, 24, 34, 35, 36] (by decide +kernel) (by decide +kernel)
set_option maxRecDepth 20000 in
theorem gX7_sheet_X5_layOut : GoodIn wsX7_sheet (wsV RX7 165 RX5 yX5_layOut wsX5_layOut) := goodIn_app (goodIn_of _ (by decide +kernel)) ggX7_sheet_X5_layOut
theorem dX7_sheet_0 : decode cX7_sheet 0 = .ok (.iload_n 1, 1) := by decide +kernel
theorem dX7_sheet_1 : decode cX7_sheet 1 = .ok (.invokestatic 159, 3) := by decide +kernel
theorem dX7_sheet_4 : decode cX7_sheet 4 = .ok (.ifCond .eq 13, 3) := by decide +kernel
theorem dX7_sheet_7 : decode cX7_sheet 7 = .ok (.iload_n 2, 1) := by decide +kernel
theorem dX7_sheet_8 : decode cX7_sheet 8 = .ok (.iconst (-1), 1) := by decide +kernel
theorem dX7_sheet_9 : decode cX7_sheet 9 = .ok (.if_icmp .lt 8, 3) := by decide +kernel
theorem dX7_sheet_12 : decode cX7_sheet 12 = .ok (.iload_n 2, 1) := by decide +kernel
theorem dX7_sheet_13 : decode cX7_sheet 13 = .ok (.iconst 1, 1) := by decide +kernel
theorem dX7_sheet_14 : decode cX7_sheet 14 = .ok (.if_icmp .le 6, 3) := by decide +kernel
theorem dX7_sheet_17 : decode cX7_sheet 17 = .ok (.bipush (-2), 2) := by decide +kernel
theorem dX7_sheet_19 : decode cX7_sheet 19 = .ok (.ireturn, 1) := by decide +kernel
theorem dX7_sheet_20 : decode cX7_sheet 20 = .ok (.iload_n 2, 1) := by decide +kernel
theorem dX7_sheet_21 : decode cX7_sheet 21 = .ok (.iconst (-1), 1) := by decide +kernel
theorem dX7_sheet_22 : decode cX7_sheet 22 = .ok (.if_icmp .ne 14, 3) := by decide +kernel
theorem dX7_sheet_25 : decode cX7_sheet 25 = .ok (.aload_n 0, 1) := by decide +kernel
theorem dX7_sheet_26 : decode cX7_sheet 26 = .ok (.getfield 56, 3) := by decide +kernel
theorem dX7_sheet_29 : decode cX7_sheet 29 = .ok (.iload_n 1, 1) := by decide +kernel
theorem dX7_sheet_30 : decode cX7_sheet 30 = .ok (.aaload, 1) := by decide +kernel
theorem dX7_sheet_31 : decode cX7_sheet 31 = .ok (.invokevirtual 162, 3) := by decide +kernel
theorem dX7_sheet_34 : decode cX7_sheet 34 = .ok (.iconst 1, 1) := by decide +kernel
theorem dX7_sheet_35 : decode cX7_sheet 35 = .ok (.ireturn, 1) := by decide +kernel
theorem dX7_sheet_36 : decode cX7_sheet 36 = .ok (.iload_n 3, 1) := by decide +kernel
theorem dX7_sheet_37 : decode cX7_sheet 37 = .ok (.bipush 40, 2) := by decide +kernel
theorem dX7_sheet_39 : decode cX7_sheet 39 = .ok (.if_icmp .le 6, 3) := by decide +kernel
theorem dX7_sheet_42 : decode cX7_sheet 42 = .ok (.bipush (-2), 2) := by decide +kernel
theorem dX7_sheet_44 : decode cX7_sheet 44 = .ok (.ireturn, 1) := by decide +kernel
theorem dX7_sheet_45 : decode cX7_sheet 45 = .ok (.iload_n 3, 1) := by decide +kernel
theorem dX7_sheet_46 : decode cX7_sheet 46 = .ok (.ifCond .ge 6, 3) := by decide +kernel
theorem dX7_sheet_49 : decode cX7_sheet 49 = .ok (.bipush (-14), 2) := by decide +kernel
theorem dX7_sheet_51 : decode cX7_sheet 51 = .ok (.ireturn, 1) := by decide +kernel
theorem dX7_sheet_52 : decode cX7_sheet 52 = .ok (.aload_n 0, 1) := by decide +kernel
theorem dX7_sheet_53 : decode cX7_sheet 53 = .ok (.getfield 56, 3) := by decide +kernel
theorem dX7_sheet_56 : decode cX7_sheet 56 = .ok (.iload_n 1, 1) := by decide +kernel
theorem dX7_sheet_57 : decode cX7_sheet 57 = .ok (.aaload, 1) := by decide +kernel
theorem dX7_sheet_58 : decode cX7_sheet 58 = .ok (.iload_n 2, 1) := by decide +kernel
theorem dX7_sheet_59 : decode cX7_sheet 59 = .ok (.iload_n 3, 1) := by decide +kernel
theorem dX7_sheet_60 : decode cX7_sheet 60 = .ok (.invokevirtual 165, 3) := by decide +kernel
theorem dX7_sheet_63 : decode cX7_sheet 63 = .ok (.iconst 1, 1) := by decide +kernel
theorem dX7_sheet_64 : decode cX7_sheet 64 = .ok (.ireturn, 1) := by decide +kernel
set_option maxRecDepth 20000 in
theorem ggX7_cell_X7_isSheet : GoodIn wsX7_cell wsX7_isSheet := goodIn_r _ [5] (by decide +kernel) (by decide +kernel)
set_option maxRecDepth 20000 in
theorem gX7_cell_X7_isSheet : GoodIn wsX7_cell (va_wsS RX7 159 yX7_isSheet wsX7_isSheet) := goodIn_app (goodIn_of _ (by decide +kernel)) ggX7_cell_X7_isSheet
set_option maxRecDepth 20000 in
theorem ggX7_cell_X5_isMissing : GoodIn wsX7_cell wsX5_isMissing := goodIn_r _ [10, 11, 27, 28, 29] (by decide +kernel) (by decide +kernel)
set_option maxRecDepth 20000 in
theorem gX7_cell_X5_isMissing : GoodIn wsX7_cell (wsV RX7 169 RX5 yX5_isMissing wsX5_isMissing) := goodIn_app (goodIn_of _ (by decide +kernel)) ggX7_cell_X5_isMissing
set_option maxRecDepth 20000 in
theorem ggX7_cell_X5_put : GoodIn wsX7_cell wsX5_put := goodIn_r _ [15, 16, 17, 11, 27, 28, 29] (by decide +kernel) (by decide +kernel)
set_option maxRecDepth 20000 in
theorem gX7_cell_X5_put : GoodIn wsX7_cell (wsV RX7 173 RX5 yX5_put wsX5_put) := goodIn_app (goodIn_of _ (by decide +kernel)) ggX7_cell_X5_put
theorem dX7_cell_0 : decode cX7_cell 0 = .ok (.iload_n 1, 1) := by decide +kernel
theorem dX7_cell_1 : decode cX7_cell 1 = .ok (.invokestatic 159, 3) := by decide +kernel
theorem dX7_cell_4 : decode cX7_cell 4 = .ok (.ifCond .ne 6, 3) := by decide +kernel
theorem dX7_cell_7 : decode cX7_cell 7 = .ok (.bipush (-2), 2) := by decide +kernel
theorem dX7_cell_9 : decode cX7_cell 9 = .ok (.ireturn, 1) := by decide +kernel
theorem dX7_cell_10 : decode cX7_cell 10 = .ok (.aload_n 0, 1) := by decide +kernel
theorem dX7_cell_11 : decode cX7_cell 11 = .ok (.getfield 56, 3) := by decide +kernel
theorem dX7_cell_14 : decode cX7_cell 14 = .ok (.iload_n 1, 1) := by decide +kernel
theorem dX7_cell_15 : decode cX7_cell 15 = .ok (.aaload, 1) := by decide +kernel
theorem dX7_cell_16 : decode cX7_cell 16 = .ok (.invokevirtual 169, 3) := by decide +kernel
theorem dX7_cell_19 : decode cX7_cell 19 = .ok (.ifCond .eq 6, 3) := by decide +kernel
theorem dX7_cell_22 : decode cX7_cell 22 = .ok (.bipush (-11), 2) := by decide +kernel
theorem dX7_cell_24 : decode cX7_cell 24 = .ok (.ireturn, 1) := by decide +kernel
theorem dX7_cell_25 : decode cX7_cell 25 = .ok (.aload_n 0, 1) := by decide +kernel
theorem dX7_cell_26 : decode cX7_cell 26 = .ok (.getfield 56, 3) := by decide +kernel
theorem dX7_cell_29 : decode cX7_cell 29 = .ok (.iload_n 1, 1) := by decide +kernel
theorem dX7_cell_30 : decode cX7_cell 30 = .ok (.aaload, 1) := by decide +kernel
theorem dX7_cell_31 : decode cX7_cell 31 = .ok (.iload_n 2, 1) := by decide +kernel
theorem dX7_cell_32 : decode cX7_cell 32 = .ok (.lload_n 3, 1) := by decide +kernel
theorem dX7_cell_33 : decode cX7_cell 33 = .ok (.invokevirtual 173, 3) := by decide +kernel
theorem dX7_cell_36 : decode cX7_cell 36 = .ok (.ifCond .eq 7, 3) := by decide +kernel
theorem dX7_cell_39 : decode cX7_cell 39 = .ok (.iconst 1, 1) := by decide +kernel
theorem dX7_cell_40 : decode cX7_cell 40 = .ok (.goto 5, 3) := by decide +kernel
theorem dX7_cell_43 : decode cX7_cell 43 = .ok (.bipush (-12), 2) := by decide +kernel
theorem dX7_cell_45 : decode cX7_cell 45 = .ok (.ireturn, 1) := by decide +kernel
set_option maxRecDepth 20000 in
theorem ggX7_item_X7_isSheet : GoodIn wsX7_item wsX7_isSheet := goodIn_r _ [6] (by decide +kernel) (by decide +kernel)
set_option maxRecDepth 20000 in
theorem gX7_item_X7_isSheet : GoodIn wsX7_item (va_wsS RX7 159 yX7_isSheet wsX7_isSheet) := goodIn_app (goodIn_of _ (by decide +kernel)) ggX7_item_X7_isSheet
set_option maxRecDepth 20000 in
theorem ggX7_item_X5_has : GoodIn wsX7_item wsX5_has := goodIn_r _ [11, 12, 28, 29, 30] (by decide +kernel) (by decide +kernel)
set_option maxRecDepth 20000 in
theorem gX7_item_X5_has : GoodIn wsX7_item (wsV RX7 177 RX5 yX5_has wsX5_has) := goodIn_app (goodIn_of _ (by decide +kernel)) ggX7_item_X5_has
set_option maxRecDepth 20000 in
theorem ggX7_item_X5_at : GoodIn wsX7_item wsX5_at := goodIn_r _ [16, 17, 18, 8, 9, 10, 11, 12, 28, 29, 30] (by decide +kernel) (by decide +kernel)
set_option maxRecDepth 20000 in
theorem gX7_item_X5_at : GoodIn wsX7_item (wsV RX7 180 RX5 yX5_at wsX5_at) := goodIn_app (goodIn_of _ (by decide +kernel)) ggX7_item_X5_at
theorem dX7_item_0 : decode cX7_item 0 = .ok (.iload_n 1, 1) := by decide +kernel
theorem dX7_item_1 : decode cX7_item 1 = .ok (.invokestatic 159, 3) := by decide +kernel
theorem dX7_item_4 : decode cX7_item 4 = .ok (.ifCond .eq 29, 3) := by decide +kernel
theorem dX7_item_7 : decode cX7_item 7 = .ok (.aload_n 0, 1) := by decide +kernel
theorem dX7_item_8 : decode cX7_item 8 = .ok (.getfield 56, 3) := by decide +kernel
theorem dX7_item_11 : decode cX7_item 11 = .ok (.iload_n 1, 1) := by decide +kernel
theorem dX7_item_12 : decode cX7_item 12 = .ok (.aaload, 1) := by decide +kernel
theorem dX7_item_13 : decode cX7_item 13 = .ok (.iload_n 2, 1) := by decide +kernel
theorem dX7_item_14 : decode cX7_item 14 = .ok (.invokevirtual 177, 3) := by decide +kernel
theorem dX7_item_17 : decode cX7_item 17 = .ok (.ifCond .eq 16, 3) := by decide +kernel
theorem dX7_item_20 : decode cX7_item 20 = .ok (.aload_n 0, 1) := by decide +kernel
theorem dX7_item_21 : decode cX7_item 21 = .ok (.getfield 56, 3) := by decide +kernel
theorem dX7_item_24 : decode cX7_item 24 = .ok (.iload_n 1, 1) := by decide +kernel
theorem dX7_item_25 : decode cX7_item 25 = .ok (.aaload, 1) := by decide +kernel
theorem dX7_item_26 : decode cX7_item 26 = .ok (.iload_n 2, 1) := by decide +kernel
theorem dX7_item_27 : decode cX7_item 27 = .ok (.invokevirtual 180, 3) := by decide +kernel
theorem dX7_item_30 : decode cX7_item 30 = .ok (.goto 6, 3) := by decide +kernel
theorem dX7_item_33 : decode cX7_item 33 = .ok (.ldc2_w 129, 3) := by decide +kernel
theorem dX7_item_36 : decode cX7_item 36 = .ok (.lreturn, 1) := by decide +kernel
set_option maxRecDepth 20000 in
theorem ggX7_differ_X7_isSheet : GoodIn wsX7_differ wsX7_isSheet := goodIn_r _ [7] (by decide +kernel) (by decide +kernel)
set_option maxRecDepth 20000 in
theorem gX7_differ_X7_isSheet : GoodIn wsX7_differ (va_wsS RX7 159 yX7_isSheet wsX7_isSheet) := goodIn_app (goodIn_of _ (by decide +kernel)) ggX7_differ_X7_isSheet
set_option maxRecDepth 20000 in
theorem ggX7_differ_X4_refusalAsHolder : GoodIn wsX7_differ wsX4_refusalAsHolder := goodIn_r _ [12, 13, 14, 15, 11, 16, 17, 18, 19, 20, 21, 74, 75, 76, 77, 78, 79, 80, 81, 82, 83, 84] (by decide +kernel) (by decide +kernel)
set_option maxRecDepth 20000 in
theorem gX7_differ_X4_refusalAsHolder : GoodIn wsX7_differ (wsV RX7 183 RX4 yX4_refusalAsHolder wsX4_refusalAsHolder) := goodIn_app (goodIn_of _ (by decide +kernel)) ggX7_differ_X4_refusalAsHolder
set_option maxRecDepth 20000 in
theorem ggX7_differ_X6_writeDifference : GoodIn wsX7_differ wsX6_writeDifference := goodIn_r _ [26, 27, 28, 29, 30, 31, 32, 33, 34, 35, 36, 37, 38, 39, 40, 41, 42, 43, 44, 45, 11, 46, 47, 48, 49, 50, 51, 52, 53, 54, 55, 56, 57, 58, 59, 60, 61, 62, 63, 64, 85, 86, 87, 88, 89, 74, 75, 76, 77, 78, 79, 80, 81, 82, 83, 84] (by decide +kernel) (by decide +kernel)
set_option maxRecDepth 20000 in
theorem gX7_differ_X6_writeDifference : GoodIn wsX7_differ (wsV RX7 186 RX6 yX6_writeDifference wsX6_writeDifference) := goodIn_app (goodIn_of _ (by decide +kernel)) ggX7_differ_X6_writeDifference
theorem dX7_differ_0 : decode cX7_differ 0 = .ok (.iload_n 1, 1) := by decide +kernel
theorem dX7_differ_1 : decode cX7_differ 1 = .ok (.invokestatic 159, 3) := by decide +kernel
theorem dX7_differ_4 : decode cX7_differ 4 = .ok (.ifCond .ne 6, 3) := by decide +kernel
theorem dX7_differ_7 : decode cX7_differ 7 = .ok (.bipush (-2), 2) := by decide +kernel
theorem dX7_differ_9 : decode cX7_differ 9 = .ok (.ireturn, 1) := by decide +kernel
theorem dX7_differ_10 : decode cX7_differ 10 = .ok (.aload_n 0, 1) := by decide +kernel
theorem dX7_differ_11 : decode cX7_differ 11 = .ok (.getfield 10, 3) := by decide +kernel
theorem dX7_differ_14 : decode cX7_differ 14 = .ok (.iload_n 2, 1) := by decide +kernel
theorem dX7_differ_15 : decode cX7_differ 15 = .ok (.invokevirtual 183, 3) := by decide +kernel
theorem dX7_differ_18 : decode cX7_differ 18 = .ok (.istore 4, 2) := by decide +kernel
theorem dX7_differ_20 : decode cX7_differ 20 = .ok (.iload 4, 2) := by decide +kernel
theorem dX7_differ_22 : decode cX7_differ 22 = .ok (.ifCond .ne 13, 3) := by decide +kernel
theorem dX7_differ_25 : decode cX7_differ 25 = .ok (.aload_n 0, 1) := by decide +kernel
theorem dX7_differ_26 : decode cX7_differ 26 = .ok (.getfield 10, 3) := by decide +kernel
theorem dX7_differ_29 : decode cX7_differ 29 = .ok (.iload_n 3, 1) := by decide +kernel
theorem dX7_differ_30 : decode cX7_differ 30 = .ok (.invokevirtual 183, 3) := by decide +kernel
theorem dX7_differ_33 : decode cX7_differ 33 = .ok (.istore 4, 2) := by decide +kernel
theorem dX7_differ_35 : decode cX7_differ 35 = .ok (.iload 4, 2) := by decide +kernel
theorem dX7_differ_37 : decode cX7_differ 37 = .ok (.ifCond .eq 8, 3) := by decide +kernel
theorem dX7_differ_40 : decode cX7_differ 40 = .ok (.iload 4, 2) := by decide +kernel
theorem dX7_differ_42 : decode cX7_differ 42 = .ok (.goto 18, 3) := by decide +kernel
theorem dX7_differ_45 : decode cX7_differ 45 = .ok (.aload_n 0, 1) := by decide +kernel
theorem dX7_differ_46 : decode cX7_differ 46 = .ok (.getfield 34, 3) := by decide +kernel
theorem dX7_differ_49 : decode cX7_differ 49 = .ok (.iload_n 2, 1) := by decide +kernel
theorem dX7_differ_50 : decode cX7_differ 50 = .ok (.iload_n 3, 1) := by decide +kernel
theorem dX7_differ_51 : decode cX7_differ 51 = .ok (.aload_n 0, 1) := by decide +kernel
theorem dX7_differ_52 : decode cX7_differ 52 = .ok (.getfield 56, 3) := by decide +kernel
theorem dX7_differ_55 : decode cX7_differ 55 = .ok (.iload_n 1, 1) := by decide +kernel
theorem dX7_differ_56 : decode cX7_differ 56 = .ok (.aaload, 1) := by decide +kernel
theorem dX7_differ_57 : decode cX7_differ 57 = .ok (.invokevirtual 186, 3) := by decide +kernel
theorem dX7_differ_60 : decode cX7_differ 60 = .ok (.ireturn, 1) := by decide +kernel
set_option maxRecDepth 20000 in
theorem ggX7_apply_X7_isSheet : GoodIn wsX7_apply wsX7_isSheet := goodIn_r _ [7] (by decide +kernel) (by decide +kernel)
set_option maxRecDepth 20000 in
theorem gX7_apply_X7_isSheet : GoodIn wsX7_apply (va_wsS RX7 159 yX7_isSheet wsX7_isSheet) := goodIn_app (goodIn_of _ (by decide +kernel)) ggX7_apply_X7_isSheet
set_option maxRecDepth 20000 in
theorem ggX7_apply_X4_refusalAs : GoodIn wsX7_apply wsX4_refusalAs := goodIn_r _ [12, 13, 14, 15, 11, 16, 17, 18, 19, 20, 21, 125, 126, 127, 128, 129, 130, 131, 132, 133, 134, 135] (by decide +kernel) (by decide +kernel)
set_option maxRecDepth 20000 in
theorem gX7_apply_X4_refusalAs : GoodIn wsX7_apply (wsV RX7 149 RX4 yX4_refusalAs wsX4_refusalAs) := goodIn_app (goodIn_of _ (by decide +kernel)) ggX7_apply_X4_refusalAs
set_option maxRecDepth 20000 in
theorem ggX7_apply_X5_refusalAsSort : GoodIn wsX7_apply wsX5_refusalAsSort := goodIn_r _ [26, 27, 28, 29, 30, 25, 31, 136, 137, 138] (by decide +kernel) (by decide +kernel)
set_option maxRecDepth 20000 in
theorem gX7_apply_X5_refusalAsSort : GoodIn wsX7_apply (wsV RX7 190 RX5 yX5_refusalAsSort wsX5_refusalAsSort) := goodIn_app (goodIn_of _ (by decide +kernel)) ggX7_apply_X5_refusalAsSort
set_option maxRecDepth 20000 in
theorem ggX7_apply_X0_carryOver : GoodIn wsX7_apply wsX0_carryOver := goodIn_r _ [36, 37, 38, 39, 25, 40, 41, 42, 43, 44, 45, 46, 47, 48, 49, 50, 51, 52, 53, 35, 54, 55, 56, 57, 58, 59, 60, 61, 62, 63, 64, 11, 65, 66, 67, 68, 69, 70, 71, 72, 73, 74, 75, 76, 77, 78, 79, 80, 81, 82, 83, 84, 85, 86, 87, 88, 89, 90, 91, 92, 93, 94, 95, 96, 97, 98, 99, 100, 101, 102, 103, 104, 105, 106, 107, 108, 109, 110, 111, 112, 113, 114, 115, 136, 137, 138, 139, 125, 126, 127, 128, 129, 130, 131, 132, 133, 134, 135] (by decide +kernel) (by decide +kernel)
set_option maxRecDepth 20000 in
theorem gX7_apply_X0_carryOver : GoodIn wsX7_apply (wsV RX7 193 RX0 yX0_carryOver wsX0_carryOver) := goodIn_app (goodIn_of _ (by decide +kernel)) ggX7_apply_X0_carryOver
theorem dX7_apply_0 : decode cX7_apply 0 = .ok (.iload_n 2, 1) := by decide +kernel
theorem dX7_apply_1 : decode cX7_apply 1 = .ok (.invokestatic 159, 3) := by decide +kernel
theorem dX7_apply_4 : decode cX7_apply 4 = .ok (.ifCond .eq 12, 3) := by decide +kernel
theorem dX7_apply_7 : decode cX7_apply 7 = .ok (.iload_n 3, 1) := by decide +kernel
theorem dX7_apply_8 : decode cX7_apply 8 = .ok (.ifCond .lt 8, 3) := by decide +kernel
theorem dX7_apply_11 : decode cX7_apply 11 = .ok (.iload_n 3, 1) := by decide +kernel
theorem dX7_apply_12 : decode cX7_apply 12 = .ok (.iconst 1, 1) := by decide +kernel
theorem dX7_apply_13 : decode cX7_apply 13 = .ok (.if_icmp .le 6, 3) := by decide +kernel
theorem dX7_apply_16 : decode cX7_apply 16 = .ok (.bipush (-2), 2) := by decide +kernel
theorem dX7_apply_18 : decode cX7_apply 18 = .ok (.ireturn, 1) := by decide +kernel
theorem dX7_apply_19 : decode cX7_apply 19 = .ok (.aload_n 0, 1) := by decide +kernel
theorem dX7_apply_20 : decode cX7_apply 20 = .ok (.getfield 10, 3) := by decide +kernel
theorem dX7_apply_23 : decode cX7_apply 23 = .ok (.iload_n 1, 1) := by decide +kernel
theorem dX7_apply_24 : decode cX7_apply 24 = .ok (.iconst 0, 1) := by decide +kernel
theorem dX7_apply_25 : decode cX7_apply 25 = .ok (.invokevirtual 149, 3) := by decide +kernel
theorem dX7_apply_28 : decode cX7_apply 28 = .ok (.istore 4, 2) := by decide +kernel
theorem dX7_apply_30 : decode cX7_apply 30 = .ok (.iload 4, 2) := by decide +kernel
theorem dX7_apply_32 : decode cX7_apply 32 = .ok (.ifCond .ne 15, 3) := by decide +kernel
theorem dX7_apply_35 : decode cX7_apply 35 = .ok (.aload_n 0, 1) := by decide +kernel
theorem dX7_apply_36 : decode cX7_apply 36 = .ok (.getfield 56, 3) := by decide +kernel
theorem dX7_apply_39 : decode cX7_apply 39 = .ok (.iload_n 2, 1) := by decide +kernel
theorem dX7_apply_40 : decode cX7_apply 40 = .ok (.aaload, 1) := by decide +kernel
theorem dX7_apply_41 : decode cX7_apply 41 = .ok (.iload_n 3, 1) := by decide +kernel
theorem dX7_apply_42 : decode cX7_apply 42 = .ok (.invokevirtual 190, 3) := by decide +kernel
theorem dX7_apply_45 : decode cX7_apply 45 = .ok (.istore 4, 2) := by decide +kernel
theorem dX7_apply_47 : decode cX7_apply 47 = .ok (.iload 4, 2) := by decide +kernel
theorem dX7_apply_49 : decode cX7_apply 49 = .ok (.ifCond .eq 8, 3) := by decide +kernel
theorem dX7_apply_52 : decode cX7_apply 52 = .ok (.iload 4, 2) := by decide +kernel
theorem dX7_apply_54 : decode cX7_apply 54 = .ok (.goto 17, 3) := by decide +kernel
theorem dX7_apply_57 : decode cX7_apply 57 = .ok (.aload_n 0, 1) := by decide +kernel
theorem dX7_apply_58 : decode cX7_apply 58 = .ok (.getfield 27, 3) := by decide +kernel
theorem dX7_apply_61 : decode cX7_apply 61 = .ok (.iload_n 1, 1) := by decide +kernel
theorem dX7_apply_62 : decode cX7_apply 62 = .ok (.aload_n 0, 1) := by decide +kernel
theorem dX7_apply_63 : decode cX7_apply 63 = .ok (.getfield 56, 3) := by decide +kernel
theorem dX7_apply_66 : decode cX7_apply 66 = .ok (.iload_n 2, 1) := by decide +kernel
theorem dX7_apply_67 : decode cX7_apply 67 = .ok (.aaload, 1) := by decide +kernel
theorem dX7_apply_68 : decode cX7_apply 68 = .ok (.invokevirtual 193, 3) := by decide +kernel
theorem dX7_apply_71 : decode cX7_apply 71 = .ok (.ireturn, 1) := by decide +kernel
theorem dX7_isSheet_0 : decode cX7_isSheet 0 = .ok (.iload_n 0, 1) := by decide +kernel
theorem dX7_isSheet_1 : decode cX7_isSheet 1 = .ok (.ifCond .lt 12, 3) := by decide +kernel
theorem dX7_isSheet_4 : decode cX7_isSheet 4 = .ok (.iload_n 0, 1) := by decide +kernel
theorem dX7_isSheet_5 : decode cX7_isSheet 5 = .ok (.iconst 4, 1) := by decide +kernel
theorem dX7_isSheet_6 : decode cX7_isSheet 6 = .ok (.if_icmp .ge 7, 3) := by decide +kernel
theorem dX7_isSheet_9 : decode cX7_isSheet 9 = .ok (.iconst 1, 1) := by decide +kernel
theorem dX7_isSheet_10 : decode cX7_isSheet 10 = .ok (.goto 4, 3) := by decide +kernel
theorem dX7_isSheet_13 : decode cX7_isSheet 13 = .ok (.iconst 0, 1) := by decide +kernel
theorem dX7_isSheet_14 : decode cX7_isSheet 14 = .ok (.ireturn, 1) := by decide +kernel
set_option maxRecDepth 20000 in
theorem ggX7_drawn_X4_copyFrom : GoodIn wsX7_drawn wsX4_copyFrom := goodIn_r _ [9, 10, 11, 12, 13, 14, 15, 16, 17, 18, 19, 20, 21, 22, 23, 24, 248, 249, 250, 251, 252, 253, 254, 255, 256, 257, 258] (by decide +kernel) (by decide +kernel)
set_option maxRecDepth 20000 in
theorem gX7_drawn_X4_copyFrom : GoodIn wsX7_drawn (wsV RX7 197 RX4 yX4_copyFrom wsX4_copyFrom) := goodIn_app (goodIn_of _ (by decide +kernel)) ggX7_drawn_X4_copyFrom
set_option maxRecDepth 20000 in
theorem ggX7_drawn_X3_play : GoodIn wsX7_drawn wsX3_play := goodIn_r _ [29, 30, 31, 32, 33, 28, 34, 35, 36, 37, 38, 39, 40, 41, 42, 43, 44, 45, 46, 47, 48, 49, 50, 8, 51, 52, 53, 54, 55, 10, 56, 57, 58, 59, 60, 61, 62, 63, 64, 65, 66, 67, 19, 68, 69, 70, 71, 72, 73, 74, 75, 20, 76, 77, 78, 79, 21, 80, 81, 82, 83, 84, 85, 22, 23, 86, 87, 88, 89, 90, 91, 92, 93, 94, 95, 96, 97, 98, 99, 100, 101, 16, 102, 103, 104, 105, 15, 106, 107, 108, 109, 24, 110, 111, 112, 113, 114, 115, 116, 117, 118, 119, 120, 121, 122, 123, 124, 125, 126, 127, 128, 129, 130, 131, 132, 133, 134, 135, 136, 137, 138, 17, 139, 140, 141, 142, 18, 143, 144, 145, 146, 147, 148, 149, 150, 151, 152, 153, 154, 155, 156, 157, 158, 159, 160, 161, 162, 163, 164, 165, 166, 167, 168, 169, 170, 171, 172, 173, 174, 175, 176, 177, 178, 179, 180, 181, 182, 183, 184, 185, 186, 187, 188, 189, 190, 191, 192, 193, 194, 195, 196, 197, 198, 199, 200, 201, 202, 203, 204, 205, 206, 207, 208, 209, 210, 211, 212, 213, 214, 215, 216, 217, 218, 219, 220, 221, 222, 259, 260, 261, 248, 249, 250, 251, 252, 253, 254, 255, 256, 257, 258] (by decide +kernel) (by decide +kernel)
set_option maxRecDepth 20000 in
theorem gX7_drawn_X3_play : GoodIn wsX7_drawn (wsV RX7 200 RX3 yX3_play wsX3_play) := goodIn_app (goodIn_of _ (by decide +kernel)) ggX7_drawn_X3_play
set_option maxRecDepth 20000 in
theorem ggX7_drawn_X4_thingCount : GoodIn wsX7_drawn wsX4_thingCount := goodIn_r _ [226, 10, 248, 249, 250, 251, 252, 253, 254, 255, 256, 257, 258] (by decide +kernel) (by decide +kernel)
set_option maxRecDepth 20000 in
theorem gX7_drawn_X4_thingCount : GoodIn wsX7_drawn (wsV RX7 203 RX4 yX4_thingCount wsX4_thingCount) := goodIn_app (goodIn_of _ (by decide +kernel)) ggX7_drawn_X4_thingCount
set_option maxRecDepth 20000 in
theorem ggX7_drawn_X4_blockCount : GoodIn wsX7_drawn wsX4_blockCount := goodIn_r _ [230, 21, 248, 249, 250, 251, 252, 253, 254, 255, 256, 257, 258] (by decide +kernel) (by decide +kernel)
set_option maxRecDepth 20000 in
theorem gX7_drawn_X4_blockCount : GoodIn wsX7_drawn (wsV RX7 206 RX4 yX4_blockCount wsX4_blockCount) := goodIn_app (goodIn_of _ (by decide +kernel)) ggX7_drawn_X4_blockCount
set_option maxRecDepth 20000 in
theorem ggX7_drawn_X4_freedCount : GoodIn wsX7_drawn wsX4_freedCount := goodIn_r _ [234, 24, 248, 249, 250, 251, 252, 253, 254, 255, 256, 257, 258] (by decide +kernel) (by decide +kernel)
set_option maxRecDepth 20000 in
theorem gX7_drawn_X4_freedCount : GoodIn wsX7_drawn (wsV RX7 209 RX4 yX4_freedCount wsX4_freedCount) := goodIn_app (goodIn_of _ (by decide +kernel)) ggX7_drawn_X4_freedCount
set_option maxRecDepth 20000 in
theorem ggX7_drawn_X4_sizeOfAll : GoodIn wsX7_drawn wsX4_sizeOfAll := goodIn_r _ [238, 21, 248, 249, 250, 251, 252, 253, 254, 255, 256, 257, 258] (by decide +kernel) (by decide +kernel)
set_option maxRecDepth 20000 in
theorem gX7_drawn_X4_sizeOfAll : GoodIn wsX7_drawn (wsV RX7 212 RX4 yX4_sizeOfAll wsX4_sizeOfAll) := goodIn_app (goodIn_of _ (by decide +kernel)) ggX7_drawn_X4_sizeOfAll
theorem dX7_drawn_0 : decode cX7_drawn 0 = .ok (.iload_n 2, 1) := by decide +kernel
theorem dX7_drawn_1 : decode cX7_drawn 1 = .ok (.ifCond .lt 18, 3) := by decide +kernel
theorem dX7_drawn_4 : decode cX7_drawn 4 = .ok (.iload_n 2, 1) := by decide +kernel
theorem dX7_drawn_5 : decode cX7_drawn 5 = .ok (.bipush 60, 2) := by decide +kernel
theorem dX7_drawn_7 : decode cX7_drawn 7 = .ok (.if_icmp .gt 12, 3) := by decide +kernel
theorem dX7_drawn_10 : decode cX7_drawn 10 = .ok (.iload_n 3, 1) := by decide +kernel
theorem dX7_drawn_11 : decode cX7_drawn 11 = .ok (.ifCond .lt 8, 3) := by decide +kernel
theorem dX7_drawn_14 : decode cX7_drawn 14 = .ok (.iload_n 3, 1) := by decide +kernel
theorem dX7_drawn_15 : decode cX7_drawn 15 = .ok (.iconst 3, 1) := by decide +kernel
theorem dX7_drawn_16 : decode cX7_drawn 16 = .ok (.if_icmp .le 7, 3) := by decide +kernel
theorem dX7_drawn_19 : decode cX7_drawn 19 = .ok (.ldc2_w 129, 3) := by decide +kernel
theorem dX7_drawn_22 : decode cX7_drawn 22 = .ok (.lreturn, 1) := by decide +kernel
theorem dX7_drawn_23 : decode cX7_drawn 23 = .ok (.aload_n 0, 1) := by decide +kernel
theorem dX7_drawn_24 : decode cX7_drawn 24 = .ok (.getfield 16, 3) := by decide +kernel
theorem dX7_drawn_27 : decode cX7_drawn 27 = .ok (.aload_n 0, 1) := by decide +kernel
theorem dX7_drawn_28 : decode cX7_drawn 28 = .ok (.getfield 10, 3) := by decide +kernel
theorem dX7_drawn_31 : decode cX7_drawn 31 = .ok (.invokevirtual 197, 3) := by decide +kernel
theorem dX7_drawn_34 : decode cX7_drawn 34 = .ok (.aload_n 0, 1) := by decide +kernel
theorem dX7_drawn_35 : decode cX7_drawn 35 = .ok (.getfield 50, 3) := by decide +kernel
theorem dX7_drawn_38 : decode cX7_drawn 38 = .ok (.iload_n 1, 1) := by decide +kernel
theorem dX7_drawn_39 : decode cX7_drawn 39 = .ok (.iload_n 2, 1) := by decide +kernel
theorem dX7_drawn_40 : decode cX7_drawn 40 = .ok (.invokevirtual 200, 3) := by decide +kernel
theorem dX7_drawn_43 : decode cX7_drawn 43 = .ok (.iload_n 3, 1) := by decide +kernel
theorem dX7_drawn_44 : decode cX7_drawn 44 = .ok (.tableswitch 63 0 2 #[28, 37, 46], 28) := by decide +kernel
theorem dX7_drawn_72 : decode cX7_drawn 72 = .ok (.aload_n 0, 1) := by decide +kernel
theorem dX7_drawn_73 : decode cX7_drawn 73 = .ok (.getfield 16, 3) := by decide +kernel
theorem dX7_drawn_76 : decode cX7_drawn 76 = .ok (.invokevirtual 203, 3) := by decide +kernel
theorem dX7_drawn_79 : decode cX7_drawn 79 = .ok (.i2l, 1) := by decide +kernel
theorem dX7_drawn_80 : decode cX7_drawn 80 = .ok (.lreturn, 1) := by decide +kernel
theorem dX7_drawn_81 : decode cX7_drawn 81 = .ok (.aload_n 0, 1) := by decide +kernel
theorem dX7_drawn_82 : decode cX7_drawn 82 = .ok (.getfield 16, 3) := by decide +kernel
theorem dX7_drawn_85 : decode cX7_drawn 85 = .ok (.invokevirtual 206, 3) := by decide +kernel
theorem dX7_drawn_88 : decode cX7_drawn 88 = .ok (.i2l, 1) := by decide +kernel
theorem dX7_drawn_89 : decode cX7_drawn 89 = .ok (.lreturn, 1) := by decide +kernel
theorem dX7_drawn_90 : decode cX7_drawn 90 = .ok (.aload_n 0, 1) := by decide +kernel
theorem dX7_drawn_91 : decode cX7_drawn 91 = .ok (.getfield 16, 3) := by decide +kernel
theorem dX7_drawn_94 : decode cX7_drawn 94 = .ok (.invokevirtual 209, 3) := by decide +kernel
theorem dX7_drawn_97 : decode cX7_drawn 97 = .ok (.aload_n 0, 1) := by decide +kernel
theorem dX7_drawn_98 : decode cX7_drawn 98 = .ok (.getfield 10, 3) := by decide +kernel
theorem dX7_drawn_101 : decode cX7_drawn 101 = .ok (.invokevirtual 209, 3) := by decide +kernel
theorem dX7_drawn_104 : decode cX7_drawn 104 = .ok (.isub, 1) := by decide +kernel
theorem dX7_drawn_105 : decode cX7_drawn 105 = .ok (.i2l, 1) := by decide +kernel
theorem dX7_drawn_106 : decode cX7_drawn 106 = .ok (.lreturn, 1) := by decide +kernel
theorem dX7_drawn_107 : decode cX7_drawn 107 = .ok (.aload_n 0, 1) := by decide +kernel
theorem dX7_drawn_108 : decode cX7_drawn 108 = .ok (.getfield 16, 3) := by decide +kernel
theorem dX7_drawn_111 : decode cX7_drawn 111 = .ok (.invokevirtual 212, 3) := by decide +kernel
theorem dX7_drawn_114 : decode cX7_drawn 114 = .ok (.lreturn, 1) := by decide +kernel
set_option maxRecDepth 20000 in
theorem ggX7_image_X4_copyFrom : GoodIn wsX7_image wsX4_copyFrom := goodIn_r _ [8, 9, 10, 11, 12, 13, 14, 15, 16, 17, 18, 19, 20, 21, 22, 23, 37, 38, 39, 40, 41, 42, 43, 44, 45, 46, 47] (by decide +kernel) (by decide +kernel)
set_option maxRecDepth 20000 in
theorem gX7_image_X4_copyFrom : GoodIn wsX7_image (wsV RX7 197 RX4 yX4_copyFrom wsX4_copyFrom) := goodIn_app (goodIn_of _ (by decide +kernel)) ggX7_image_X4_copyFrom
set_option maxRecDepth 20000 in
theorem ggX7_image_X4_thingCount : GoodIn wsX7_image wsX4_thingCount := goodIn_r _ [27, 9, 37, 38, 39, 40, 41, 42, 43, 44, 45, 46, 47] (by decide +kernel) (by decide +kernel)
set_option maxRecDepth 20000 in
theorem gX7_image_X4_thingCount : GoodIn wsX7_image (wsV RX7 203 RX4 yX4_thingCount wsX4_thingCount) := goodIn_app (goodIn_of _ (by decide +kernel)) ggX7_image_X4_thingCount
theorem dX7_image_0 : decode cX7_image 0 = .ok (.aload_n 0, 1) := by decide +kernel
theorem dX7_image_1 : decode cX7_image 1 = .ok (.getfield 19, 3) := by decide +kernel
theorem dX7_image_4 : decode cX7_image 4 = .ok (.aload_n 0, 1) := by decide +kernel
theorem dX7_image_5 : decode cX7_image 5 = .ok (.getfield 10, 3) := by decide +kernel
theorem dX7_image_8 : decode cX7_image 8 = .ok (.invokevirtual 197, 3) := by decide +kernel
theorem dX7_image_11 : decode cX7_image 11 = .ok (.aload_n 0, 1) := by decide +kernel
theorem dX7_image_12 : decode cX7_image 12 = .ok (.iconst 1, 1) := by decide +kernel
theorem dX7_image_13 : decode cX7_image 13 = .ok (.putfield 61, 3) := by decide +kernel
theorem dX7_image_16 : decode cX7_image 16 = .ok (.aload_n 0, 1) := by decide +kernel
theorem dX7_image_17 : decode cX7_image 17 = .ok (.getfield 19, 3) := by decide +kernel
theorem dX7_image_20 : decode cX7_image 20 = .ok (.invokevirtual 203, 3) := by decide +kernel
theorem dX7_image_23 : decode cX7_image 23 = .ok (.ireturn, 1) := by decide +kernel
set_option maxRecDepth 20000 in
theorem ggX7_back_X4_copyFrom : GoodIn wsX7_back wsX4_copyFrom := goodIn_r _ [8, 9, 10, 11, 12, 13, 14, 15, 16, 17, 18, 19, 20, 21, 22, 23, 37, 38, 39, 40, 41, 42, 43, 44, 45, 46, 47] (by decide +kernel) (by decide +kernel)
set_option maxRecDepth 20000 in
theorem gX7_back_X4_copyFrom : GoodIn wsX7_back (wsV RX7 197 RX4 yX4_copyFrom wsX4_copyFrom) := goodIn_app (goodIn_of _ (by decide +kernel)) ggX7_back_X4_copyFrom
set_option maxRecDepth 20000 in
theorem ggX7_back_X4_thingCount : GoodIn wsX7_back wsX4_thingCount := goodIn_r _ [27, 9, 37, 38, 39, 40, 41, 42, 43, 44, 45, 46, 47] (by decide +kernel) (by decide +kernel)
set_option maxRecDepth 20000 in
theorem gX7_back_X4_thingCount : GoodIn wsX7_back (wsV RX7 203 RX4 yX4_thingCount wsX4_thingCount) := goodIn_app (goodIn_of _ (by decide +kernel)) ggX7_back_X4_thingCount
theorem dX7_back_0 : decode cX7_back 0 = .ok (.aload_n 0, 1) := by decide +kernel
theorem dX7_back_1 : decode cX7_back 1 = .ok (.getfield 61, 3) := by decide +kernel
theorem dX7_back_4 : decode cX7_back 4 = .ok (.ifCond .ne 6, 3) := by decide +kernel
theorem dX7_back_7 : decode cX7_back 7 = .ok (.bipush (-3), 2) := by decide +kernel
theorem dX7_back_9 : decode cX7_back 9 = .ok (.ireturn, 1) := by decide +kernel
theorem dX7_back_10 : decode cX7_back 10 = .ok (.aload_n 0, 1) := by decide +kernel
theorem dX7_back_11 : decode cX7_back 11 = .ok (.getfield 10, 3) := by decide +kernel
theorem dX7_back_14 : decode cX7_back 14 = .ok (.aload_n 0, 1) := by decide +kernel
theorem dX7_back_15 : decode cX7_back 15 = .ok (.getfield 19, 3) := by decide +kernel
theorem dX7_back_18 : decode cX7_back 18 = .ok (.invokevirtual 197, 3) := by decide +kernel
theorem dX7_back_21 : decode cX7_back 21 = .ok (.aload_n 0, 1) := by decide +kernel
theorem dX7_back_22 : decode cX7_back 22 = .ok (.getfield 10, 3) := by decide +kernel
theorem dX7_back_25 : decode cX7_back 25 = .ok (.invokevirtual 203, 3) := by decide +kernel
theorem dX7_back_28 : decode cX7_back 28 = .ok (.ireturn, 1) := by decide +kernel
set_option maxRecDepth 20000 in
theorem ggX7_count_X4_thingCount : GoodIn wsX7_count wsX4_thingCount := goodIn_r _ [6, 7, 32, 33, 34, 35, 36, 37, 38, 39, 40, 41, 42] (by decide +kernel) (by decide +kernel)
set_option maxRecDepth 20000 in
theorem gX7_count_X4_thingCount : GoodIn wsX7_count (wsV RX7 203 RX4 yX4_thingCount wsX4_thingCount) := goodIn_app (goodIn_of _ (by decide +kernel)) ggX7_count_X4_thingCount
set_option maxRecDepth 20000 in
theorem ggX7_count_X4_blockCount : GoodIn wsX7_count wsX4_blockCount := goodIn_r _ [11, 12, 32, 33, 34, 35, 36, 37, 38, 39, 40, 41, 42] (by decide +kernel) (by decide +kernel)
set_option maxRecDepth 20000 in
theorem gX7_count_X4_blockCount : GoodIn wsX7_count (wsV RX7 206 RX4 yX4_blockCount wsX4_blockCount) := goodIn_app (goodIn_of _ (by decide +kernel)) ggX7_count_X4_blockCount
set_option maxRecDepth 20000 in
theorem ggX7_count_X4_now : GoodIn wsX7_count wsX4_now := goodIn_r _ [16, 17, 32, 33, 34, 35, 36, 37, 38, 39, 40, 41, 42] (by decide +kernel) (by decide +kernel)
set_option maxRecDepth 20000 in
theorem gX7_count_X4_now : GoodIn wsX7_count (wsV RX7 216 RX4 yX4_now wsX4_now) := goodIn_app (goodIn_of _ (by decide +kernel)) ggX7_count_X4_now
set_option maxRecDepth 20000 in
theorem ggX7_count_X4_freedCount : GoodIn wsX7_count wsX4_freedCount := goodIn_r _ [21, 22, 32, 33, 34, 35, 36, 37, 38, 39, 40, 41, 42] (by decide +kernel) (by decide +kernel)
set_option maxRecDepth 20000 in
theorem gX7_count_X4_freedCount : GoodIn wsX7_count (wsV RX7 209 RX4 yX4_freedCount wsX4_freedCount) := goodIn_app (goodIn_of _ (by decide +kernel)) ggX7_count_X4_freedCount
theorem dX7_count_0 : decode cX7_count 0 = .ok (.iload_n 1, 1) := by decide +kernel
theorem dX7_count_1 : decode cX7_count 1 = .ok (.tableswitch 63 0 3 #[31, 39, 47, 55], 31) := by decide +kernel
theorem dX7_count_32 : decode cX7_count 32 = .ok (.aload_n 0, 1) := by decide +kernel
theorem dX7_count_33 : decode cX7_count 33 = .ok (.getfield 10, 3) := by decide +kernel
theorem dX7_count_36 : decode cX7_count 36 = .ok (.invokevirtual 203, 3) := by decide +kernel
theorem dX7_count_39 : decode cX7_count 39 = .ok (.ireturn, 1) := by decide +kernel
theorem dX7_count_40 : decode cX7_count 40 = .ok (.aload_n 0, 1) := by decide +kernel
theorem dX7_count_41 : decode cX7_count 41 = .ok (.getfield 10, 3) := by decide +kernel
theorem dX7_count_44 : decode cX7_count 44 = .ok (.invokevirtual 206, 3) := by decide +kernel
theorem dX7_count_47 : decode cX7_count 47 = .ok (.ireturn, 1) := by decide +kernel
theorem dX7_count_48 : decode cX7_count 48 = .ok (.aload_n 0, 1) := by decide +kernel
theorem dX7_count_49 : decode cX7_count 49 = .ok (.getfield 10, 3) := by decide +kernel
theorem dX7_count_52 : decode cX7_count 52 = .ok (.invokevirtual 216, 3) := by decide +kernel
theorem dX7_count_55 : decode cX7_count 55 = .ok (.ireturn, 1) := by decide +kernel
theorem dX7_count_56 : decode cX7_count 56 = .ok (.aload_n 0, 1) := by decide +kernel
theorem dX7_count_57 : decode cX7_count 57 = .ok (.getfield 10, 3) := by decide +kernel
theorem dX7_count_60 : decode cX7_count 60 = .ok (.invokevirtual 209, 3) := by decide +kernel
theorem dX7_count_63 : decode cX7_count 63 = .ok (.ireturn, 1) := by decide +kernel
theorem dX7_count_64 : decode cX7_count 64 = .ok (.bipush (-2), 2) := by decide +kernel
theorem dX7_count_66 : decode cX7_count 66 = .ok (.ireturn, 1) := by decide +kernel
