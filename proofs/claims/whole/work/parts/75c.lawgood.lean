set_option maxRecDepth 20000 in
theorem ggL_law_X7_block : GoodIn wsL_law wsX7_block := goodIn_r _ [537, 26, 538, 539, 540, 25, 541, 65, 69, 542, 187, 188, 15, 189, 52, 543, 205, 206, 207, 53, 544, 545, 546, 68, 547, 75, 74, 548, 183, 184, 185, 51, 549, 550, 551, 552, 553, 554, 555, 556, 557, 558, 559, 1008, 1009, 1010, 1011, 1012, 1013, 1014, 1015, 1016, 1042, 1043, 1030, 1031, 1032, 1033, 1034, 1035, 1036, 1037, 1038, 1039, 1040, 1053, 1054] (by decide +kernel) (by decide +kernel)
set_option maxRecDepth 20000 in
theorem gL_law_X7_block : GoodIn wsL_law (wsV RL 69 RX7 yX7_block wsX7_block) := goodIn_app (goodIn_of _ (by decide +kernel)) ggL_law_X7_block
set_option maxRecDepth 20000 in
theorem ggL_law_X8_block : GoodIn wsL_law wsX8_block := goodIn_r _ [563, 104, 107, 139, 140, 5, 141, 259, 260, 261, 262, 263, 264, 265, 266, 267, 268, 269, 270, 232, 233, 234, 235, 236, 237, 238, 271, 272, 273, 274, 1017, 1018, 1019, 1020, 1021, 1022, 1023, 1024, 1025, 1026, 1027, 1028, 1029] (by decide +kernel) (by decide +kernel)
set_option maxRecDepth 20000 in
theorem gL_law_X8_block : GoodIn wsL_law (wsV RL 72 RX8 yX8_block wsX8_block) := goodIn_app (goodIn_of _ (by decide +kernel)) ggL_law_X8_block
set_option maxRecDepth 20000 in
theorem ggL_law_X7_taken : GoodIn wsL_law wsX7_taken := goodIn_r _ [567, 26, 568, 569, 570, 25, 571, 65, 572, 159, 160, 15, 161, 162, 163, 164, 165, 45, 166, 167, 168, 169, 493, 213, 214, 215, 46, 1008, 1009, 1010, 1011, 1012, 1013, 1014, 1015, 1016, 1042, 1043, 1030, 1031, 1032, 1033, 1034, 1035, 1036, 1037, 1038, 1039, 1040] (by decide +kernel) (by decide +kernel)
set_option maxRecDepth 20000 in
theorem gL_law_X7_taken : GoodIn wsL_law (wsV RL 73 RX7 yX7_taken wsX7_taken) := goodIn_app (goodIn_of _ (by decide +kernel)) ggL_law_X7_taken
set_option maxRecDepth 20000 in
theorem ggL_law_X8_taken : GoodIn wsL_law wsX8_taken := goodIn_r _ [576, 104, 139, 140, 5, 141, 224, 225, 226, 227, 228, 229, 230, 231, 232, 233, 234, 235, 236, 237, 238, 1017, 1018, 1019, 1020, 1021, 1022, 1023, 1024, 1025, 1026, 1027, 1028, 1029] (by decide +kernel) (by decide +kernel)
set_option maxRecDepth 20000 in
theorem gL_law_X8_taken : GoodIn wsL_law (wsV RL 76 RX8 yX8_taken wsX8_taken) := goodIn_app (goodIn_of _ (by decide +kernel)) ggL_law_X8_taken
set_option maxRecDepth 20000 in
theorem ggL_law_X7_dead : GoodIn wsL_law wsX7_dead := goodIn_r _ [580, 26, 581, 582, 583, 25, 584, 65, 522, 523, 524, 15, 525, 162, 163, 164, 165, 45, 166, 167, 168, 169, 585, 586, 587, 588, 494, 209, 210, 211, 47, 502, 183, 184, 185, 51, 589, 590, 591, 592, 543, 205, 206, 207, 53, 593, 594, 555, 595, 1008, 1009, 1010, 1011, 1012, 1013, 1014, 1015, 1016, 1042, 1043, 1030, 1031, 1032, 1033, 1034, 1035, 1036, 1037, 1038, 1039, 1040] (by decide +kernel) (by decide +kernel)
set_option maxRecDepth 20000 in
theorem gL_law_X7_dead : GoodIn wsL_law (wsV RL 77 RX7 yX7_dead wsX7_dead) := goodIn_app (goodIn_of _ (by decide +kernel)) ggL_law_X7_dead
set_option maxRecDepth 20000 in
theorem ggL_law_X8_dead : GoodIn wsL_law wsX8_dead := goodIn_r _ [599, 104, 139, 140, 5, 141, 530, 531, 532, 533, 228, 229, 230, 231, 232, 233, 234, 235, 263, 264, 265, 266, 267, 268, 269, 270, 236, 237, 238, 271, 272, 273, 274, 600, 601, 602, 603, 604, 605, 606, 607, 1017, 1018, 1019, 1020, 1021, 1022, 1023, 1024, 1025, 1026, 1027, 1028, 1029] (by decide +kernel) (by decide +kernel)
set_option maxRecDepth 20000 in
theorem gL_law_X8_dead : GoodIn wsL_law (wsV RL 80 RX8 yX8_dead wsX8_dead) := goodIn_app (goodIn_of _ (by decide +kernel)) ggL_law_X8_dead
set_option maxRecDepth 20000 in
theorem ggL_law_X7_deadList : GoodIn wsL_law wsX7_deadList := goodIn_r _ [611, 26, 612, 613, 614, 25, 615, 65, 616, 617, 618, 619, 15, 620, 166, 167, 168, 169, 45, 621, 441, 442, 443, 444, 209, 210, 211, 47, 494, 493, 213, 214, 215, 46, 585, 586, 587, 588, 502, 183, 184, 185, 51, 543, 205, 206, 207, 53, 542, 187, 188, 189, 52, 1008, 1009, 1010, 1011, 1012, 1013, 1014, 1015, 1016, 1042, 1043, 1030, 1031, 1032, 1033, 1034, 1035, 1036, 1037, 1038, 1039, 1040] (by decide +kernel) (by decide +kernel)
set_option maxRecDepth 20000 in
theorem gL_law_X7_deadList : GoodIn wsL_law (wsV RL 81 RX7 yX7_deadList wsX7_deadList) := goodIn_app (goodIn_of _ (by decide +kernel)) ggL_law_X7_deadList
set_option maxRecDepth 20000 in
theorem ggL_law_X8_deadList : GoodIn wsL_law wsX8_deadList := goodIn_r _ [625, 626, 104, 263, 264, 265, 5, 266, 267, 268, 269, 270, 232, 233, 234, 235, 139, 140, 141, 236, 237, 238, 271, 272, 273, 274, 627, 628, 629, 630, 600, 601, 602, 603, 604, 605, 606, 607, 1017, 1018, 1019, 1020, 1021, 1022, 1023, 1024, 1025, 1026, 1027, 1028, 1029] (by decide +kernel) (by decide +kernel)
set_option maxRecDepth 20000 in
theorem gL_law_X8_deadList : GoodIn wsL_law (wsV RL 85 RX8 yX8_deadList wsX8_deadList) := goodIn_app (goodIn_of _ (by decide +kernel)) ggL_law_X8_deadList
set_option maxRecDepth 20000 in
theorem ggL_law_X7_space : GoodIn wsL_law wsX7_space := goodIn_r _ [634, 16, 635, 636, 618, 619, 15, 620, 166, 167, 168, 169, 45, 637, 179, 180, 181, 182, 183, 184, 185, 51, 186, 187, 188, 189, 52, 1008, 1009, 1010, 1011, 1012, 1013, 1014, 1015, 1016, 1030, 1031, 1032, 1033, 1034, 1035, 1036, 1037, 1038, 1039, 1040] (by decide +kernel) (by decide +kernel)
set_option maxRecDepth 20000 in
theorem gL_law_X7_space : GoodIn wsL_law (wsV RL 86 RX7 yX7_space wsX7_space) := goodIn_app (goodIn_of _ (by decide +kernel)) ggL_law_X7_space
set_option maxRecDepth 20000 in
theorem ggL_law_X8_space : GoodIn wsL_law wsX8_space := goodIn_r _ [641, 626, 263, 264, 265, 5, 266, 267, 268, 269, 270, 104, 232, 233, 234, 235, 139, 140, 141, 236, 237, 238, 271, 272, 273, 274, 247, 248, 249, 250, 1017, 1018, 1019, 1020, 1021, 1022, 1023, 1024, 1025, 1026, 1027, 1028, 1029] (by decide +kernel) (by decide +kernel)
set_option maxRecDepth 20000 in
theorem gL_law_X8_space : GoodIn wsL_law (wsV RL 90 RX8 yX8_space wsX8_space) := goodIn_app (goodIn_of _ (by decide +kernel)) ggL_law_X8_space
set_option maxRecDepth 20000 in
theorem ggL_law_X7_alone : GoodIn wsL_law wsX7_alone := goodIn_r _ [645, 16, 26, 635, 636, 618, 619, 15, 620, 166, 167, 168, 169, 45, 646, 647, 648, 25, 649, 69, 65, 544, 545, 546, 68, 547, 75, 74, 548, 183, 184, 185, 51, 549, 550, 551, 552, 542, 187, 188, 189, 52, 1008, 1009, 1010, 1011, 1012, 1013, 1014, 1015, 1016, 1030, 1031, 1032, 1033, 1034, 1035, 1036, 1037, 1038, 1039, 1040, 1042, 1043, 1053, 1054] (by decide +kernel) (by decide +kernel)
set_option maxRecDepth 20000 in
theorem gL_law_X7_alone : GoodIn wsL_law (wsV RL 91 RX7 yX7_alone wsX7_alone) := goodIn_app (goodIn_of _ (by decide +kernel)) ggL_law_X7_alone
set_option maxRecDepth 20000 in
theorem ggL_law_X8_alone : GoodIn wsL_law wsX8_alone := goodIn_r _ [653, 626, 263, 264, 265, 5, 266, 267, 268, 269, 270, 104, 232, 233, 234, 235, 139, 140, 141, 236, 237, 238, 271, 272, 273, 274, 654, 655, 656, 657, 107, 259, 260, 261, 262, 604, 605, 606, 607, 1017, 1018, 1019, 1020, 1021, 1022, 1023, 1024, 1025, 1026, 1027, 1028, 1029] (by decide +kernel) (by decide +kernel)
set_option maxRecDepth 20000 in
theorem gL_law_X8_alone : GoodIn wsL_law (wsV RL 94 RX8 yX8_alone wsX8_alone) := goodIn_app (goodIn_of _ (by decide +kernel)) ggL_law_X8_alone
set_option maxRecDepth 20000 in
theorem ggL_law_X7_range : GoodIn wsL_law wsX7_range := goodIn_r _ [661, 26, 662, 663, 664, 25, 665, 65, 616, 666, 366, 367, 15, 368, 166, 167, 168, 169, 45, 667, 647, 648, 649, 69, 544, 545, 546, 68, 547, 75, 74, 548, 183, 184, 185, 51, 549, 550, 551, 552, 542, 187, 188, 189, 52, 494, 209, 210, 211, 47, 1008, 1009, 1010, 1011, 1012, 1013, 1014, 1015, 1016, 1042, 1043, 1030, 1031, 1032, 1033, 1034, 1035, 1036, 1037, 1038, 1039, 1040, 1053, 1054] (by decide +kernel) (by decide +kernel)
set_option maxRecDepth 20000 in
theorem gL_law_X7_range : GoodIn wsL_law (wsV RL 95 RX7 yX7_range wsX7_range) := goodIn_app (goodIn_of _ (by decide +kernel)) ggL_law_X7_range
set_option maxRecDepth 20000 in
theorem ggL_law_X8_range : GoodIn wsL_law wsX8_range := goodIn_r _ [671, 626, 104, 271, 272, 273, 5, 274, 232, 233, 234, 235, 139, 140, 141, 236, 237, 238, 654, 655, 656, 657, 107, 259, 260, 261, 262, 263, 264, 265, 266, 267, 268, 269, 270, 604, 605, 606, 607, 1017, 1018, 1019, 1020, 1021, 1022, 1023, 1024, 1025, 1026, 1027, 1028, 1029] (by decide +kernel) (by decide +kernel)
set_option maxRecDepth 20000 in
theorem gL_law_X8_range : GoodIn wsL_law (wsV RL 98 RX8 yX8_range wsX8_range) := goodIn_app (goodIn_of _ (by decide +kernel)) ggL_law_X8_range
