set_option maxRecDepth 20000 in
theorem ggL_law_X7_since : GoodIn wsL_law wsX7_since := goodIn_r _ [675, 26, 676, 677, 678, 25, 679, 65, 616, 617, 618, 619, 15, 620, 166, 167, 168, 169, 45, 492, 502, 183, 184, 185, 51, 543, 205, 206, 207, 53, 493, 213, 214, 215, 46, 542, 187, 188, 189, 52, 1008, 1009, 1010, 1011, 1012, 1013, 1014, 1015, 1016, 1042, 1043, 1030, 1031, 1032, 1033, 1034, 1035, 1036, 1037, 1038, 1039, 1040] (by decide +kernel) (by decide +kernel)
set_option maxRecDepth 20000 in
theorem gL_law_X7_since : GoodIn wsL_law (wsV RL 99 RX7 yX7_since wsX7_since) := goodIn_app (goodIn_of _ (by decide +kernel)) ggL_law_X7_since
set_option maxRecDepth 20000 in
theorem ggL_law_X8_since : GoodIn wsL_law wsX8_since := goodIn_r _ [683, 626, 104, 263, 264, 265, 5, 266, 267, 268, 269, 270, 232, 233, 234, 235, 139, 140, 141, 236, 237, 238, 271, 272, 273, 274, 1017, 1018, 1019, 1020, 1021, 1022, 1023, 1024, 1025, 1026, 1027, 1028, 1029] (by decide +kernel) (by decide +kernel)
set_option maxRecDepth 20000 in
theorem gL_law_X8_since : GoodIn wsL_law (wsV RL 102 RX8 yX8_since wsX8_since) := goodIn_app (goodIn_of _ (by decide +kernel)) ggL_law_X8_since
set_option maxRecDepth 20000 in
theorem ggL_law_X7_common : GoodIn wsL_law wsX7_common := goodIn_r _ [687, 26, 688, 689, 690, 25, 691, 65, 616, 617, 618, 619, 15, 620, 166, 167, 168, 169, 45, 502, 183, 184, 185, 51, 542, 187, 188, 189, 52, 1008, 1009, 1010, 1011, 1012, 1013, 1014, 1015, 1016, 1042, 1043, 1030, 1031, 1032, 1033, 1034, 1035, 1036, 1037, 1038, 1039, 1040] (by decide +kernel) (by decide +kernel)
set_option maxRecDepth 20000 in
theorem gL_law_X7_common : GoodIn wsL_law (wsV RL 103 RX7 yX7_common wsX7_common) := goodIn_app (goodIn_of _ (by decide +kernel)) ggL_law_X7_common
set_option maxRecDepth 20000 in
theorem ggL_law_X8_common : GoodIn wsL_law wsX8_common := goodIn_r _ [695, 626, 104, 263, 264, 265, 5, 266, 267, 268, 269, 270, 232, 233, 234, 235, 139, 140, 141, 236, 237, 238, 271, 272, 273, 274, 604, 605, 606, 607, 1017, 1018, 1019, 1020, 1021, 1022, 1023, 1024, 1025, 1026, 1027, 1028, 1029] (by decide +kernel) (by decide +kernel)
set_option maxRecDepth 20000 in
theorem gL_law_X8_common : GoodIn wsL_law (wsV RL 106 RX8 yX8_common wsX8_common) := goodIn_app (goodIn_of _ (by decide +kernel)) ggL_law_X8_common
set_option maxRecDepth 20000 in
theorem ggL_law_X7_most : GoodIn wsL_law wsX7_most := goodIn_r _ [699, 16, 635, 30, 700, 436, 437, 15, 438, 166, 167, 168, 169, 45, 701, 702, 703, 29, 704, 85, 705, 706, 707, 708, 709, 710, 711, 712, 82, 80, 713, 714, 715, 716, 717, 718, 719, 83, 720, 392, 393, 394, 48, 721, 441, 442, 443, 444, 209, 210, 211, 47, 722, 370, 371, 372, 373, 366, 367, 368, 374, 337, 338, 339, 49, 375, 376, 377, 378, 723, 545, 546, 68, 547, 75, 74, 548, 183, 184, 185, 51, 724, 550, 551, 552, 725, 726, 727, 728, 729, 187, 188, 189, 52, 730, 731, 732, 733, 734, 554, 555, 556, 557, 558, 559, 1008, 1009, 1010, 1011, 1012, 1013, 1014, 1015, 1016, 1030, 1031, 1032, 1033, 1034, 1035, 1036, 1037, 1038, 1039, 1040, 1044, 1045, 1046, 1047, 1053, 1054] (by decide +kernel) (by decide +kernel)
set_option maxRecDepth 20000 in
theorem gL_law_X7_most : GoodIn wsL_law (wsV RL 107 RX7 yX7_most wsX7_most) := goodIn_app (goodIn_of _ (by decide +kernel)) ggL_law_X7_most
set_option maxRecDepth 20000 in
theorem ggL_law_X8_most : GoodIn wsL_law wsX8_most := goodIn_r _ [738, 626, 139, 140, 5, 141, 267, 268, 269, 270, 104, 232, 233, 234, 235, 236, 237, 238, 739, 740, 741, 742, 743, 108, 271, 272, 273, 274, 744, 745, 746, 747, 109, 107, 259, 260, 261, 262, 263, 264, 265, 266, 748, 749, 750, 751, 399, 400, 401, 402, 752, 753, 754, 755, 756, 757, 758, 759, 1017, 1018, 1019, 1020, 1021, 1022, 1023, 1024, 1025, 1026, 1027, 1028, 1029] (by decide +kernel) (by decide +kernel)
set_option maxRecDepth 20000 in
theorem gL_law_X8_most : GoodIn wsL_law (wsV RL 110 RX8 yX8_most wsX8_most) := goodIn_app (goodIn_of _ (by decide +kernel)) ggL_law_X8_most
set_option maxRecDepth 20000 in
theorem ggL_law_X7_fewest : GoodIn wsL_law wsX7_fewest := goodIn_r _ [763, 16, 30, 764, 159, 160, 15, 161, 162, 163, 164, 165, 45, 166, 167, 168, 169, 765, 766, 767, 29, 768, 85, 709, 710, 711, 712, 82, 80, 713, 714, 715, 716, 717, 718, 707, 719, 83, 720, 392, 393, 394, 48, 721, 441, 442, 443, 444, 209, 210, 211, 47, 722, 370, 371, 372, 373, 366, 367, 368, 374, 337, 338, 339, 49, 375, 376, 377, 378, 723, 545, 546, 68, 547, 75, 74, 548, 183, 184, 185, 51, 724, 550, 551, 552, 725, 726, 727, 728, 729, 187, 188, 189, 52, 730, 731, 732, 733, 734, 554, 555, 556, 557, 558, 559, 1008, 1009, 1010, 1011, 1012, 1013, 1014, 1015, 1016, 1030, 1031, 1032, 1033, 1034, 1035, 1036, 1037, 1038, 1039, 1040, 1044, 1045, 1046, 1047, 1053, 1054] (by decide +kernel) (by decide +kernel)
set_option maxRecDepth 20000 in
theorem gL_law_X7_fewest : GoodIn wsL_law (wsV RL 113 RX7 yX7_fewest wsX7_fewest) := goodIn_app (goodIn_of _ (by decide +kernel)) ggL_law_X7_fewest
set_option maxRecDepth 20000 in
theorem ggL_law_X8_fewest : GoodIn wsL_law wsX8_fewest := goodIn_r _ [772, 224, 225, 226, 5, 227, 104, 228, 229, 230, 231, 139, 140, 141, 232, 233, 234, 235, 236, 237, 238, 739, 740, 741, 742, 743, 108, 271, 272, 273, 274, 744, 745, 746, 747, 109, 107, 259, 260, 261, 262, 263, 264, 265, 266, 267, 268, 269, 270, 748, 749, 750, 751, 399, 400, 401, 402, 752, 753, 754, 755, 756, 757, 758, 759, 1017, 1018, 1019, 1020, 1021, 1022, 1023, 1024, 1025, 1026, 1027, 1028, 1029] (by decide +kernel) (by decide +kernel)
set_option maxRecDepth 20000 in
theorem gL_law_X8_fewest : GoodIn wsL_law (wsV RL 117 RX8 yX8_fewest wsX8_fewest) := goodIn_app (goodIn_of _ (by decide +kernel)) ggL_law_X8_fewest
set_option maxRecDepth 20000 in
theorem ggL_law_X7_expire : GoodIn wsL_law wsX7_expire := goodIn_r _ [776, 22, 777, 778, 779, 21, 780, 60, 158, 159, 160, 15, 161, 162, 163, 164, 165, 45, 166, 167, 168, 169, 391, 392, 393, 394, 48, 781, 441, 442, 443, 444, 209, 210, 211, 47, 212, 213, 214, 215, 46, 369, 370, 371, 372, 373, 366, 367, 368, 374, 337, 338, 339, 49, 375, 376, 377, 378, 379, 380, 381, 382, 383, 384, 385, 386, 208, 190, 183, 184, 185, 51, 204, 205, 206, 207, 53, 216, 217, 218, 219, 52, 55, 304, 305, 306, 307, 387, 388, 389, 390, 50, 1008, 1009, 1010, 1011, 1012, 1013, 1014, 1015, 1016, 1041, 1030, 1031, 1032, 1033, 1034, 1035, 1036, 1037, 1038, 1039, 1040] (by decide +kernel) (by decide +kernel)
set_option maxRecDepth 20000 in
theorem gL_law_X7_expire : GoodIn wsL_law (wsV RL 118 RX7 yX7_expire wsX7_expire) := goodIn_app (goodIn_of _ (by decide +kernel)) ggL_law_X7_expire
set_option maxRecDepth 20000 in
theorem ggL_law_X8_expire : GoodIn wsL_law wsX8_expire := goodIn_r _ [785, 743, 108, 104, 139, 140, 5, 141, 224, 225, 226, 227, 228, 229, 230, 231, 232, 233, 234, 235, 236, 237, 238, 739, 740, 741, 742, 271, 272, 273, 274, 748, 749, 750, 751, 399, 400, 401, 402, 263, 264, 265, 266, 267, 268, 269, 270, 407, 408, 409, 410, 255, 256, 257, 258, 107, 259, 260, 261, 262, 1017, 1018, 1019, 1020, 1021, 1022, 1023, 1024, 1025, 1026, 1027, 1028, 1029] (by decide +kernel) (by decide +kernel)
set_option maxRecDepth 20000 in
theorem gL_law_X8_expire : GoodIn wsL_law (wsV RL 121 RX8 yX8_expire wsX8_expire) := goodIn_app (goodIn_of _ (by decide +kernel)) ggL_law_X8_expire
set_option maxRecDepth 20000 in
theorem ggL_law_X7_sheet : GoodIn wsL_law wsX7_sheet := goodIn_r _ [789, 36, 790, 791, 2, 792, 793, 794, 795, 38, 796, 98, 99, 797, 798, 799, 800, 801, 718, 707, 719, 802, 803, 804, 97, 1008, 1009, 1010, 1011, 1012, 1013, 1014, 1015, 1016, 1050, 1051, 1052] (by decide +kernel) (by decide +kernel)
set_option maxRecDepth 20000 in
theorem gL_law_X7_sheet : GoodIn wsL_law (wsV RL 122 RX7 yX7_sheet wsX7_sheet) := goodIn_app (goodIn_of _ (by decide +kernel)) ggL_law_X7_sheet
set_option maxRecDepth 20000 in
theorem ggL_law_X8_sheet : GoodIn wsL_law wsX8_sheet := goodIn_r _ [808, 809, 810, 5, 811, 139, 140, 141, 812, 813, 814, 815, 110, 111, 112, 1017, 1018, 1019, 1020, 1021, 1022, 1023, 1024, 1025, 1026, 1027, 1028, 1029] (by decide +kernel) (by decide +kernel)
set_option maxRecDepth 20000 in
theorem gL_law_X8_sheet : GoodIn wsL_law (wsV RL 125 RX8 yX8_sheet wsX8_sheet) := goodIn_app (goodIn_of _ (by decide +kernel)) ggL_law_X8_sheet
set_option maxRecDepth 20000 in
theorem ggL_law_X7_cell : GoodIn wsL_law wsX7_cell := goodIn_r _ [819, 36, 790, 791, 2, 792, 820, 821, 822, 38, 823, 98, 824, 825, 826, 827, 99, 97, 1008, 1009, 1010, 1011, 1012, 1013, 1014, 1015, 1016, 1050, 1051, 1052] (by decide +kernel) (by decide +kernel)
set_option maxRecDepth 20000 in
theorem gL_law_X7_cell : GoodIn wsL_law (wsV RL 126 RX7 yX7_cell wsX7_cell) := goodIn_app (goodIn_of _ (by decide +kernel)) ggL_law_X7_cell
set_option maxRecDepth 20000 in
theorem ggL_law_X8_cell : GoodIn wsL_law wsX8_cell := goodIn_r _ [831, 110, 111, 112, 809, 810, 5, 811, 139, 140, 141, 1017, 1018, 1019, 1020, 1021, 1022, 1023, 1024, 1025, 1026, 1027, 1028, 1029] (by decide +kernel) (by decide +kernel)
set_option maxRecDepth 20000 in
theorem gL_law_X8_cell : GoodIn wsL_law (wsV RL 130 RX8 yX8_cell wsX8_cell) := goodIn_app (goodIn_of _ (by decide +kernel)) ggL_law_X8_cell
