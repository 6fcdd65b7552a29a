set_option maxRecDepth 20000 in
theorem ggL_law_X7_init : GoodIn wsL_law wsX7_init := goodIn_r _ [9, 10, 11, 12, 13, 14, 15, 16, 17, 18, 19, 20, 21, 22, 23, 24, 25, 26, 27, 28, 29, 30, 31, 32, 33, 34, 35, 36, 37, 38, 39, 40, 41, 42, 43, 44, 45, 46, 47, 48, 49, 50, 51, 52, 53, 54, 55, 56, 57, 58, 59, 60, 61, 62, 63, 64, 65, 66, 67, 68, 69, 70, 71, 72, 73, 74, 75, 76, 77, 78, 79, 80, 81, 82, 83, 84, 85, 86, 87, 88, 89, 90, 91, 92, 93, 94, 95, 96, 97, 98, 99, 1030, 1031, 1032, 1033, 1034, 1035, 1036, 1037, 1038, 1039, 1040, 1008, 1009, 1010, 1011, 1012, 1013, 1014, 1015, 1016, 1041, 1042, 1043, 1044, 1045, 1046, 1047, 1048, 1049, 1050, 1051, 1052, 1053, 1054] (by decide +kernel) (by decide +kernel)
set_option maxRecDepth 20000 in
theorem gL_law_X7_init : GoodIn wsL_law (wsX7_init) := ggL_law_X7_init
set_option maxRecDepth 20000 in
theorem ggL_law_X8_init : GoodIn wsL_law wsX8_init := goodIn_r _ [102, 103, 11, 12, 44, 104, 105, 106, 107, 108, 109, 110, 111, 84, 112, 1017, 1018, 1019, 1020, 1021, 1022, 1023, 1024, 1025, 1026, 1027, 1028, 1029] (by decide +kernel) (by decide +kernel)
set_option maxRecDepth 20000 in
theorem gL_law_X8_init : GoodIn wsL_law (wsX8_init) := ggL_law_X8_init
set_option maxRecDepth 20000 in
theorem ggL_law_X7_files : GoodIn wsL_law wsX7_files := goodIn_r _ [116, 22, 117, 118, 119, 21, 120, 121, 60, 122, 123, 124, 15, 125, 54, 126, 127, 128, 129, 45, 46, 130, 131, 132, 133, 50, 1008, 1009, 1010, 1011, 1012, 1013, 1014, 1015, 1016, 1041, 1030, 1031, 1032, 1033, 1034, 1035, 1036, 1037, 1038, 1039, 1040] (by decide +kernel) (by decide +kernel)
set_option maxRecDepth 20000 in
theorem gL_law_X7_files : GoodIn wsL_law (wsV RL 13 RX7 yX7_files wsX7_files) := goodIn_app (goodIn_of _ (by decide +kernel)) ggL_law_X7_files
set_option maxRecDepth 20000 in
theorem ggL_law_X8_files : GoodIn wsL_law wsX8_files := goodIn_r _ [137, 138, 104, 139, 140, 5, 141, 142, 143, 144, 145, 146, 147, 148, 149, 1017, 1018, 1019, 1020, 1021, 1022, 1023, 1024, 1025, 1026, 1027, 1028, 1029] (by decide +kernel) (by decide +kernel)
set_option maxRecDepth 20000 in
theorem gL_law_X8_files : GoodIn wsL_law (wsV RL 17 RX8 yX8_files wsX8_files) := goodIn_app (goodIn_of _ (by decide +kernel)) ggL_law_X8_files
set_option maxRecDepth 20000 in
theorem ggL_law_X7_write : GoodIn wsL_law wsX7_write := goodIn_r _ [153, 22, 154, 155, 156, 21, 157, 121, 60, 158, 159, 160, 15, 161, 162, 163, 164, 165, 45, 166, 167, 168, 169, 170, 171, 172, 173, 174, 175, 176, 177, 50, 178, 179, 180, 181, 182, 183, 184, 185, 51, 186, 187, 188, 189, 52, 190, 191, 192, 193, 194, 195, 53, 54, 196, 197, 198, 199, 200, 201, 202, 203, 204, 205, 206, 207, 208, 209, 210, 211, 47, 212, 213, 214, 215, 46, 216, 217, 218, 219, 55, 1008, 1009, 1010, 1011, 1012, 1013, 1014, 1015, 1016, 1041, 1030, 1031, 1032, 1033, 1034, 1035, 1036, 1037, 1038, 1039, 1040] (by decide +kernel) (by decide +kernel)
set_option maxRecDepth 20000 in
theorem gL_law_X7_write : GoodIn wsL_law (wsV RL 18 RX7 yX7_write wsX7_write) := goodIn_app (goodIn_of _ (by decide +kernel)) ggL_law_X7_write
set_option maxRecDepth 20000 in
theorem ggL_law_X8_write : GoodIn wsL_law wsX8_write := goodIn_r _ [223, 138, 139, 140, 5, 141, 224, 225, 226, 227, 104, 228, 229, 230, 231, 232, 233, 234, 235, 236, 237, 238, 239, 240, 241, 242, 243, 244, 245, 246, 247, 248, 249, 250, 251, 252, 253, 254, 255, 256, 257, 258, 107, 259, 260, 261, 262, 263, 264, 265, 266, 267, 268, 269, 270, 271, 272, 273, 274, 1017, 1018, 1019, 1020, 1021, 1022, 1023, 1024, 1025, 1026, 1027, 1028, 1029] (by decide +kernel) (by decide +kernel)
set_option maxRecDepth 20000 in
theorem gL_law_X8_write : GoodIn wsL_law (wsV RL 22 RX8 yX8_write wsX8_write) := goodIn_app (goodIn_of _ (by decide +kernel)) ggL_law_X8_write
set_option maxRecDepth 20000 in
theorem ggL_law_X7_erase : GoodIn wsL_law wsX7_erase := goodIn_r _ [278, 22, 279, 280, 281, 21, 282, 60, 158, 159, 160, 15, 161, 162, 163, 164, 165, 45, 166, 167, 168, 169, 190, 183, 184, 185, 51, 196, 197, 198, 199, 200, 201, 202, 203, 204, 205, 206, 207, 53, 208, 209, 210, 211, 47, 212, 213, 214, 215, 46, 216, 217, 218, 219, 52, 55, 1008, 1009, 1010, 1011, 1012, 1013, 1014, 1015, 1016, 1041, 1030, 1031, 1032, 1033, 1034, 1035, 1036, 1037, 1038, 1039, 1040] (by decide +kernel) (by decide +kernel)
set_option maxRecDepth 20000 in
theorem gL_law_X7_erase : GoodIn wsL_law (wsV RL 23 RX7 yX7_erase wsX7_erase) := goodIn_app (goodIn_of _ (by decide +kernel)) ggL_law_X7_erase
set_option maxRecDepth 20000 in
theorem ggL_law_X8_erase : GoodIn wsL_law wsX8_erase := goodIn_r _ [286, 139, 140, 5, 141, 224, 225, 226, 227, 104, 228, 229, 230, 231, 232, 233, 234, 235, 236, 237, 238, 287, 288, 289, 290, 255, 256, 257, 258, 107, 259, 260, 261, 262, 263, 264, 265, 266, 267, 268, 269, 270, 271, 272, 273, 274, 1017, 1018, 1019, 1020, 1021, 1022, 1023, 1024, 1025, 1026, 1027, 1028, 1029] (by decide +kernel) (by decide +kernel)
set_option maxRecDepth 20000 in
theorem gL_law_X8_erase : GoodIn wsL_law (wsV RL 27 RX8 yX8_erase wsX8_erase) := goodIn_app (goodIn_of _ (by decide +kernel)) ggL_law_X8_erase
set_option maxRecDepth 20000 in
theorem ggL_law_X7_snap : GoodIn wsL_law wsX7_snap := goodIn_r _ [294, 22, 295, 296, 297, 21, 298, 60, 158, 159, 160, 15, 161, 162, 163, 164, 165, 45, 166, 167, 168, 169, 122, 123, 124, 125, 54, 126, 127, 128, 129, 46, 299, 300, 301, 302, 182, 183, 184, 185, 51, 303, 201, 202, 203, 208, 209, 210, 211, 47, 304, 305, 306, 307, 308, 309, 310, 311, 48, 312, 313, 314, 315, 49, 316, 317, 318, 319, 1008, 1009, 1010, 1011, 1012, 1013, 1014, 1015, 1016, 1041, 1030, 1031, 1032, 1033, 1034, 1035, 1036, 1037, 1038, 1039, 1040] (by decide +kernel) (by decide +kernel)
set_option maxRecDepth 20000 in
theorem gL_law_X7_snap : GoodIn wsL_law (wsV RL 28 RX7 yX7_snap wsX7_snap) := goodIn_app (goodIn_of _ (by decide +kernel)) ggL_law_X7_snap
set_option maxRecDepth 20000 in
theorem ggL_law_X8_snap : GoodIn wsL_law wsX8_snap := goodIn_r _ [323, 104, 139, 140, 5, 141, 224, 225, 226, 227, 228, 229, 230, 231, 232, 233, 234, 235, 236, 237, 238, 142, 143, 144, 145, 146, 147, 148, 149, 324, 325, 326, 327, 1017, 1018, 1019, 1020, 1021, 1022, 1023, 1024, 1025, 1026, 1027, 1028, 1029] (by decide +kernel) (by decide +kernel)
set_option maxRecDepth 20000 in
theorem gL_law_X8_snap : GoodIn wsL_law (wsV RL 31 RX8 yX8_snap wsX8_snap) := goodIn_app (goodIn_of _ (by decide +kernel)) ggL_law_X8_snap
set_option maxRecDepth 20000 in
theorem ggL_law_X7_tag : GoodIn wsL_law wsX7_tag := goodIn_r _ [331, 22, 332, 333, 334, 21, 335, 60, 158, 159, 160, 15, 161, 162, 163, 164, 165, 45, 166, 167, 168, 169, 336, 337, 338, 339, 49, 312, 313, 314, 315, 1008, 1009, 1010, 1011, 1012, 1013, 1014, 1015, 1016, 1041, 1030, 1031, 1032, 1033, 1034, 1035, 1036, 1037, 1038, 1039, 1040] (by decide +kernel) (by decide +kernel)
set_option maxRecDepth 20000 in
theorem gL_law_X7_tag : GoodIn wsL_law (wsV RL 32 RX7 yX7_tag wsX7_tag) := goodIn_app (goodIn_of _ (by decide +kernel)) ggL_law_X7_tag
set_option maxRecDepth 20000 in
theorem ggL_law_X8_tag : GoodIn wsL_law wsX8_tag := goodIn_r _ [343, 104, 139, 140, 5, 141, 224, 225, 226, 227, 228, 229, 230, 231, 232, 233, 234, 235, 236, 237, 238, 1017, 1018, 1019, 1020, 1021, 1022, 1023, 1024, 1025, 1026, 1027, 1028, 1029] (by decide +kernel) (by decide +kernel)
set_option maxRecDepth 20000 in
theorem gL_law_X8_tag : GoodIn wsL_law (wsV RL 35 RX8 yX8_tag wsX8_tag) := goodIn_app (goodIn_of _ (by decide +kernel)) ggL_law_X8_tag
set_option maxRecDepth 20000 in
theorem ggL_law_X7_mark : GoodIn wsL_law wsX7_mark := goodIn_r _ [347, 22, 348, 349, 350, 21, 351, 60, 158, 159, 160, 15, 161, 162, 163, 164, 165, 45, 166, 167, 168, 169, 212, 213, 214, 215, 46, 126, 127, 128, 129, 1008, 1009, 1010, 1011, 1012, 1013, 1014, 1015, 1016, 1041, 1030, 1031, 1032, 1033, 1034, 1035, 1036, 1037, 1038, 1039, 1040] (by decide +kernel) (by decide +kernel)
set_option maxRecDepth 20000 in
theorem gL_law_X7_mark : GoodIn wsL_law (wsV RL 36 RX7 yX7_mark wsX7_mark) := goodIn_app (goodIn_of _ (by decide +kernel)) ggL_law_X7_mark
set_option maxRecDepth 20000 in
theorem ggL_law_X8_mark : GoodIn wsL_law wsX8_mark := goodIn_r _ [355, 104, 224, 225, 226, 5, 227, 228, 229, 230, 231, 139, 140, 141, 232, 233, 234, 235, 236, 237, 238, 142, 143, 144, 145, 146, 147, 148, 149, 1017, 1018, 1019, 1020, 1021, 1022, 1023, 1024, 1025, 1026, 1027, 1028, 1029] (by decide +kernel) (by decide +kernel)
set_option maxRecDepth 20000 in
theorem gL_law_X8_mark : GoodIn wsL_law (wsV RL 39 RX8 yX8_mark wsX8_mark) := goodIn_app (goodIn_of _ (by decide +kernel)) ggL_law_X8_mark
