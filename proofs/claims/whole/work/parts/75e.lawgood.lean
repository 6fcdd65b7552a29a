set_option maxRecDepth 20000 in
theorem ggL_law_X7_item : GoodIn wsL_law wsX7_item := goodIn_r _ [835, 36, 635, 790, 791, 2, 792, 836, 837, 838, 38, 839, 99, 840, 841, 842, 843, 97, 844, 1008, 1009, 1010, 1011, 1012, 1013, 1014, 1015, 1016, 1050, 1051, 1052] (by decide +kernel) (by decide +kernel)
set_option maxRecDepth 20000 in
theorem gL_law_X7_item : GoodIn wsL_law (wsV RL 131 RX7 yX7_item wsX7_item) := goodIn_app (goodIn_of _ (by decide +kernel)) ggL_law_X7_item
set_option maxRecDepth 20000 in
theorem ggL_law_X8_item : GoodIn wsL_law wsX8_item := goodIn_r _ [848, 110, 111, 112, 626, 809, 810, 5, 811, 139, 140, 141, 1017, 1018, 1019, 1020, 1021, 1022, 1023, 1024, 1025, 1026, 1027, 1028, 1029] (by decide +kernel) (by decide +kernel)
set_option maxRecDepth 20000 in
theorem gL_law_X8_item : GoodIn wsL_law (wsV RL 134 RX8 yX8_item wsX8_item) := goodIn_app (goodIn_of _ (by decide +kernel)) ggL_law_X8_item
set_option maxRecDepth 20000 in
theorem ggL_law_X7_differ : GoodIn wsL_law wsX7_differ := goodIn_r _ [852, 16, 26, 36, 790, 791, 2, 792, 853, 523, 524, 15, 525, 162, 163, 164, 165, 45, 166, 167, 168, 169, 854, 855, 856, 25, 857, 65, 858, 798, 799, 38, 800, 98, 801, 718, 707, 719, 802, 803, 804, 99, 97, 502, 183, 184, 185, 51, 859, 860, 861, 862, 863, 825, 826, 827, 542, 187, 188, 189, 52, 864, 865, 866, 867, 1008, 1009, 1010, 1011, 1012, 1013, 1014, 1015, 1016, 1030, 1031, 1032, 1033, 1034, 1035, 1036, 1037, 1038, 1039, 1040, 1042, 1043, 1050, 1051, 1052] (by decide +kernel) (by decide +kernel)
set_option maxRecDepth 20000 in
theorem gL_law_X7_differ : GoodIn wsL_law (wsV RL 135 RX7 yX7_differ wsX7_differ) := goodIn_app (goodIn_of _ (by decide +kernel)) ggL_law_X7_differ
set_option maxRecDepth 20000 in
theorem ggL_law_X8_differ : GoodIn wsL_law wsX8_differ := goodIn_r _ [871, 104, 112, 111, 809, 810, 5, 811, 139, 140, 141, 530, 531, 532, 533, 228, 229, 230, 231, 232, 233, 234, 235, 263, 264, 265, 266, 267, 268, 269, 270, 236, 237, 238, 271, 272, 273, 274, 812, 813, 814, 815, 110, 251, 252, 253, 254, 1017, 1018, 1019, 1020, 1021, 1022, 1023, 1024, 1025, 1026, 1027, 1028, 1029] (by decide +kernel) (by decide +kernel)
set_option maxRecDepth 20000 in
theorem gL_law_X8_differ : GoodIn wsL_law (wsV RL 138 RX8 yX8_differ wsX8_differ) := goodIn_app (goodIn_of _ (by decide +kernel)) ggL_law_X8_differ
set_option maxRecDepth 20000 in
theorem ggL_law_X7_apply : GoodIn wsL_law wsX7_apply := goodIn_r _ [875, 16, 36, 22, 790, 791, 2, 792, 764, 159, 160, 15, 161, 162, 163, 164, 165, 45, 166, 167, 168, 169, 876, 877, 878, 38, 879, 98, 880, 821, 822, 823, 881, 882, 883, 21, 884, 885, 865, 866, 867, 99, 886, 841, 842, 843, 97, 844, 837, 838, 839, 887, 888, 889, 890, 891, 892, 196, 197, 198, 199, 60, 190, 183, 184, 185, 51, 200, 201, 202, 203, 204, 205, 206, 207, 53, 208, 209, 210, 211, 47, 212, 213, 214, 215, 46, 216, 217, 218, 219, 52, 55, 170, 171, 172, 173, 174, 175, 176, 177, 50, 178, 179, 180, 181, 182, 186, 187, 188, 189, 191, 192, 193, 194, 195, 54, 1008, 1009, 1010, 1011, 1012, 1013, 1014, 1015, 1016, 1030, 1031, 1032, 1033, 1034, 1035, 1036, 1037, 1038, 1039, 1040, 1050, 1051, 1052, 1041] (by decide +kernel) (by decide +kernel)
set_option maxRecDepth 20000 in
theorem gL_law_X7_apply : GoodIn wsL_law (wsV RL 139 RX7 yX7_apply wsX7_apply) := goodIn_app (goodIn_of _ (by decide +kernel)) ggL_law_X7_apply
set_option maxRecDepth 20000 in
theorem ggL_law_X8_apply : GoodIn wsL_law wsX8_apply := goodIn_r _ [896, 110, 111, 112, 809, 810, 5, 811, 139, 140, 141, 224, 225, 226, 227, 104, 228, 229, 230, 231, 232, 233, 234, 235, 236, 237, 238, 897, 898, 899, 900, 901, 902, 287, 288, 289, 290, 255, 256, 257, 258, 107, 259, 260, 261, 262, 263, 264, 265, 266, 267, 268, 269, 270, 271, 272, 273, 274, 239, 240, 241, 242, 243, 244, 245, 246, 247, 248, 249, 250, 251, 252, 253, 254, 1017, 1018, 1019, 1020, 1021, 1022, 1023, 1024, 1025, 1026, 1027, 1028, 1029] (by decide +kernel) (by decide +kernel)
set_option maxRecDepth 20000 in
theorem gL_law_X8_apply : GoodIn wsL_law (wsV RL 142 RX8 yX8_apply wsX8_apply) := goodIn_app (goodIn_of _ (by decide +kernel)) ggL_law_X8_apply
set_option maxRecDepth 20000 in
theorem ggL_law_X7_drawn : GoodIn wsL_law wsX7_drawn := goodIn_r _ [906, 635, 17, 16, 34, 907, 908, 909, 15, 910, 45, 911, 912, 913, 914, 46, 47, 48, 49, 50, 51, 52, 53, 54, 55, 915, 916, 917, 33, 918, 92, 919, 920, 921, 922, 923, 924, 925, 926, 927, 91, 928, 155, 156, 21, 157, 121, 60, 158, 159, 160, 161, 162, 163, 164, 165, 166, 167, 168, 169, 170, 171, 172, 173, 174, 175, 176, 177, 178, 179, 180, 181, 182, 183, 184, 185, 186, 187, 188, 189, 190, 191, 192, 193, 194, 195, 196, 197, 198, 199, 200, 201, 202, 203, 204, 205, 206, 207, 208, 209, 210, 211, 212, 213, 214, 215, 216, 217, 218, 219, 929, 280, 281, 282, 930, 296, 297, 298, 122, 123, 124, 125, 126, 127, 128, 129, 299, 300, 301, 302, 303, 304, 305, 306, 307, 308, 309, 310, 311, 312, 313, 314, 315, 316, 317, 318, 319, 931, 361, 362, 363, 364, 365, 366, 367, 368, 369, 370, 371, 372, 373, 374, 337, 338, 339, 375, 376, 377, 378, 379, 380, 381, 382, 383, 384, 385, 386, 387, 388, 389, 390, 391, 392, 393, 394, 932, 416, 417, 418, 933, 428, 429, 430, 431, 432, 433, 434, 435, 436, 437, 438, 439, 440, 441, 442, 443, 444, 445, 446, 447, 448, 934, 462, 463, 464, 935, 118, 119, 120, 130, 131, 132, 133, 936, 937, 938, 939, 940, 941, 942, 943, 944, 945, 946, 947, 948, 949, 950, 951, 1008, 1009, 1010, 1011, 1012, 1013, 1014, 1015, 1016, 1030, 1031, 1032, 1033, 1034, 1035, 1036, 1037, 1038, 1039, 1040, 1048, 1049, 1041] (by decide +kernel) (by decide +kernel)
set_option maxRecDepth 20000 in
theorem gL_law_X7_drawn : GoodIn wsL_law (wsV RL 143 RX7 yX7_drawn wsX7_drawn) := goodIn_app (goodIn_of _ (by decide +kernel)) ggL_law_X7_drawn
set_option maxRecDepth 20000 in
theorem ggL_law_X8_drawn : GoodIn wsL_law wsX8_drawn := goodIn_r _ [955, 626, 106, 104, 956, 139, 140, 5, 141, 957, 958, 959, 960, 961, 962, 963, 964, 965, 966, 221, 222, 223, 138, 224, 225, 226, 227, 228, 229, 230, 231, 232, 233, 234, 235, 236, 237, 238, 239, 240, 241, 242, 243, 244, 245, 246, 247, 248, 249, 250, 251, 252, 253, 254, 255, 256, 257, 258, 107, 259, 260, 261, 262, 263, 264, 265, 266, 267, 268, 269, 270, 271, 272, 273, 274, 967, 284, 285, 286, 287, 288, 289, 290, 968, 321, 322, 323, 142, 143, 144, 145, 146, 147, 148, 149, 324, 325, 326, 327, 969, 396, 397, 398, 399, 400, 401, 402, 403, 404, 405, 406, 407, 408, 409, 410, 970, 420, 421, 422, 971, 450, 451, 452, 453, 454, 455, 456, 972, 466, 467, 468, 973, 135, 136, 137, 974, 975, 976, 977, 978, 979, 980, 981, 1017, 1018, 1019, 1020, 1021, 1022, 1023, 1024, 1025, 1026, 1027, 1028, 1029] (by decide +kernel) (by decide +kernel)
set_option maxRecDepth 20000 in
theorem gL_law_X8_drawn : GoodIn wsL_law (wsV RL 147 RX8 yX8_drawn wsX8_drawn) := goodIn_app (goodIn_of _ (by decide +kernel)) ggL_law_X8_drawn
set_option maxRecDepth 20000 in
theorem ggL_law_X7_image : GoodIn wsL_law wsX7_image := goodIn_r _ [985, 18, 16, 39, 907, 908, 909, 15, 910, 45, 911, 912, 913, 914, 46, 47, 48, 49, 50, 51, 52, 53, 54, 55, 936, 937, 938, 939, 1008, 1009, 1010, 1011, 1012, 1013, 1014, 1015, 1016, 1030, 1031, 1032, 1033, 1034, 1035, 1036, 1037, 1038, 1039, 1040] (by decide +kernel) (by decide +kernel)
set_option maxRecDepth 20000 in
theorem gL_law_X7_image : GoodIn wsL_law (wsV RL 148 RX7 yX7_image wsX7_image) := goodIn_app (goodIn_of _ (by decide +kernel)) ggL_law_X7_image
set_option maxRecDepth 20000 in
theorem ggL_law_X8_image : GoodIn wsL_law wsX8_image := goodIn_r _ [989, 105, 104, 990, 974, 975, 976, 5, 977, 232, 233, 234, 235, 139, 140, 141, 1017, 1018, 1019, 1020, 1021, 1022, 1023, 1024, 1025, 1026, 1027, 1028, 1029] (by decide +kernel) (by decide +kernel)
set_option maxRecDepth 20000 in
theorem gL_law_X8_image : GoodIn wsL_law (wsV RL 151 RX8 yX8_image wsX8_image) := goodIn_app (goodIn_of _ (by decide +kernel)) ggL_law_X8_image
set_option maxRecDepth 20000 in
theorem ggL_law_X7_back : GoodIn wsL_law wsX7_back := goodIn_r _ [994, 39, 16, 18, 907, 908, 909, 15, 910, 45, 911, 912, 913, 914, 46, 47, 48, 49, 50, 51, 52, 53, 54, 55, 936, 937, 938, 939, 1008, 1009, 1010, 1011, 1012, 1013, 1014, 1015, 1016, 1030, 1031, 1032, 1033, 1034, 1035, 1036, 1037, 1038, 1039, 1040] (by decide +kernel) (by decide +kernel)
set_option maxRecDepth 20000 in
theorem gL_law_X7_back : GoodIn wsL_law (wsV RL 152 RX7 yX7_back wsX7_back) := goodIn_app (goodIn_of _ (by decide +kernel)) ggL_law_X7_back
set_option maxRecDepth 20000 in
theorem ggL_law_X8_back : GoodIn wsL_law wsX8_back := goodIn_r _ [998, 990, 104, 105, 974, 975, 976, 5, 977, 232, 233, 234, 235, 139, 140, 141, 1017, 1018, 1019, 1020, 1021, 1022, 1023, 1024, 1025, 1026, 1027, 1028, 1029] (by decide +kernel) (by decide +kernel)
set_option maxRecDepth 20000 in
theorem gL_law_X8_back : GoodIn wsL_law (wsV RL 155 RX8 yX8_back wsX8_back) := goodIn_app (goodIn_of _ (by decide +kernel)) ggL_law_X8_back
set_option maxRecDepth 20000 in
theorem ggL_law_X7_count : GoodIn wsL_law wsX7_count := goodIn_r _ [1002, 16, 936, 937, 938, 15, 939, 45, 940, 941, 942, 943, 52, 1003, 123, 124, 125, 54, 944, 945, 946, 947, 55, 1008, 1009, 1010, 1011, 1012, 1013, 1014, 1015, 1016, 1030, 1031, 1032, 1033, 1034, 1035, 1036, 1037, 1038, 1039, 1040] (by decide +kernel) (by decide +kernel)
set_option maxRecDepth 20000 in
theorem gL_law_X7_count : GoodIn wsL_law (wsV RL 156 RX7 yX7_count wsX7_count) := goodIn_app (goodIn_of _ (by decide +kernel)) ggL_law_X7_count
set_option maxRecDepth 20000 in
theorem ggL_law_X8_count : GoodIn wsL_law wsX8_count := goodIn_r _ [1007, 104, 974, 975, 976, 5, 977, 232, 233, 234, 235, 139, 140, 141, 978, 979, 980, 981, 1017, 1018, 1019, 1020, 1021, 1022, 1023, 1024, 1025, 1026, 1027, 1028, 1029] (by decide +kernel) (by decide +kernel)
set_option maxRecDepth 20000 in
theorem gL_law_X8_count : GoodIn wsL_law (wsV RL 159 RX8 yX8_count wsX8_count) := goodIn_app (goodIn_of _ (by decide +kernel)) ggL_law_X8_count
