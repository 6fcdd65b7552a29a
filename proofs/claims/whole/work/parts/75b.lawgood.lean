set_option maxRecDepth 20000 in
theorem ggL_law_X7_remove : GoodIn wsL_law wsX7_remove := goodIn_r _ [359, 22, 360, 361, 362, 21, 363, 60, 364, 163, 164, 15, 165, 45, 365, 366, 367, 368, 166, 167, 168, 169, 369, 370, 371, 372, 373, 374, 337, 338, 339, 49, 375, 376, 377, 378, 47, 379, 380, 381, 382, 383, 384, 385, 386, 208, 209, 210, 211, 190, 183, 184, 185, 51, 204, 205, 206, 207, 53, 212, 213, 214, 215, 46, 216, 217, 218, 219, 52, 55, 304, 305, 306, 307, 387, 388, 389, 390, 48, 50, 391, 392, 393, 394, 196, 197, 198, 199, 200, 201, 202, 203, 1008, 1009, 1010, 1011, 1012, 1013, 1014, 1015, 1016, 1041, 1030, 1031, 1032, 1033, 1034, 1035, 1036, 1037, 1038, 1039, 1040] (by decide +kernel) (by decide +kernel)
set_option maxRecDepth 20000 in
theorem gL_law_X7_remove : GoodIn wsL_law (wsV RL 40 RX7 yX7_remove wsX7_remove) := goodIn_app (goodIn_of _ (by decide +kernel)) ggL_law_X7_remove
set_option maxRecDepth 20000 in
theorem ggL_law_X8_remove : GoodIn wsL_law wsX8_remove := goodIn_r _ [398, 104, 228, 229, 230, 5, 231, 139, 140, 141, 232, 233, 234, 235, 271, 272, 273, 274, 236, 237, 238, 399, 400, 401, 402, 263, 264, 265, 266, 267, 268, 269, 270, 403, 404, 405, 406, 407, 408, 409, 410, 255, 256, 257, 258, 107, 259, 260, 261, 262, 1017, 1018, 1019, 1020, 1021, 1022, 1023, 1024, 1025, 1026, 1027, 1028, 1029] (by decide +kernel) (by decide +kernel)
set_option maxRecDepth 20000 in
theorem gL_law_X8_remove : GoodIn wsL_law (wsV RL 43 RX8 yX8_remove wsX8_remove) := goodIn_app (goodIn_of _ (by decide +kernel)) ggL_law_X8_remove
set_option maxRecDepth 20000 in
theorem ggL_law_X7_fork : GoodIn wsL_law wsX7_fork := goodIn_r _ [414, 22, 415, 416, 417, 21, 418, 60, 158, 159, 160, 15, 161, 162, 163, 164, 165, 45, 166, 167, 168, 169, 122, 123, 124, 125, 54, 126, 127, 128, 129, 46, 299, 300, 301, 302, 182, 183, 184, 185, 51, 303, 201, 202, 203, 304, 305, 306, 307, 47, 1008, 1009, 1010, 1011, 1012, 1013, 1014, 1015, 1016, 1041, 1030, 1031, 1032, 1033, 1034, 1035, 1036, 1037, 1038, 1039, 1040] (by decide +kernel) (by decide +kernel)
set_option maxRecDepth 20000 in
theorem gL_law_X7_fork : GoodIn wsL_law (wsV RL 44 RX7 yX7_fork wsX7_fork) := goodIn_app (goodIn_of _ (by decide +kernel)) ggL_law_X7_fork
set_option maxRecDepth 20000 in
theorem ggL_law_X8_fork : GoodIn wsL_law wsX8_fork := goodIn_r _ [422, 104, 224, 225, 226, 5, 227, 228, 229, 230, 231, 139, 140, 141, 232, 233, 234, 235, 236, 237, 238, 142, 143, 144, 145, 146, 147, 148, 149, 324, 325, 326, 327, 1017, 1018, 1019, 1020, 1021, 1022, 1023, 1024, 1025, 1026, 1027, 1028, 1029] (by decide +kernel) (by decide +kernel)
set_option maxRecDepth 20000 in
theorem gL_law_X8_fork : GoodIn wsL_law (wsV RL 47 RX8 yX8_fork wsX8_fork) := goodIn_app (goodIn_of _ (by decide +kernel)) ggL_law_X8_fork
set_option maxRecDepth 20000 in
theorem ggL_law_X7_promote : GoodIn wsL_law wsX7_promote := goodIn_r _ [426, 22, 427, 428, 429, 21, 430, 60, 158, 159, 160, 15, 161, 162, 163, 164, 165, 45, 166, 167, 168, 169, 431, 432, 433, 434, 435, 436, 437, 438, 439, 392, 393, 394, 48, 440, 441, 442, 443, 444, 209, 210, 211, 47, 445, 446, 447, 448, 308, 309, 310, 311, 208, 1008, 1009, 1010, 1011, 1012, 1013, 1014, 1015, 1016, 1041, 1030, 1031, 1032, 1033, 1034, 1035, 1036, 1037, 1038, 1039, 1040] (by decide +kernel) (by decide +kernel)
set_option maxRecDepth 20000 in
theorem gL_law_X7_promote : GoodIn wsL_law (wsV RL 48 RX7 yX7_promote wsX7_promote) := goodIn_app (goodIn_of _ (by decide +kernel)) ggL_law_X7_promote
set_option maxRecDepth 20000 in
theorem ggL_law_X8_promote : GoodIn wsL_law wsX8_promote := goodIn_r _ [452, 104, 224, 225, 226, 5, 227, 228, 229, 230, 231, 139, 140, 141, 232, 233, 234, 235, 236, 237, 238, 453, 454, 455, 456, 1017, 1018, 1019, 1020, 1021, 1022, 1023, 1024, 1025, 1026, 1027, 1028, 1029] (by decide +kernel) (by decide +kernel)
set_option maxRecDepth 20000 in
theorem gL_law_X8_promote : GoodIn wsL_law (wsV RL 51 RX8 yX8_promote wsX8_promote) := goodIn_app (goodIn_of _ (by decide +kernel)) ggL_law_X8_promote
set_option maxRecDepth 20000 in
theorem ggL_law_X7_rollback : GoodIn wsL_law wsX7_rollback := goodIn_r _ [460, 22, 461, 462, 463, 21, 464, 60, 158, 159, 160, 15, 161, 162, 163, 164, 165, 45, 166, 167, 168, 169, 208, 209, 210, 211, 47, 196, 197, 198, 199, 190, 183, 184, 185, 51, 200, 201, 202, 203, 204, 205, 206, 207, 53, 212, 213, 214, 215, 46, 216, 217, 218, 219, 52, 55, 299, 300, 301, 302, 182, 303, 1008, 1009, 1010, 1011, 1012, 1013, 1014, 1015, 1016, 1041, 1030, 1031, 1032, 1033, 1034, 1035, 1036, 1037, 1038, 1039, 1040] (by decide +kernel) (by decide +kernel)
set_option maxRecDepth 20000 in
theorem gL_law_X7_rollback : GoodIn wsL_law (wsV RL 52 RX7 yX7_rollback wsX7_rollback) := goodIn_app (goodIn_of _ (by decide +kernel)) ggL_law_X7_rollback
set_option maxRecDepth 20000 in
theorem ggL_law_X8_rollback : GoodIn wsL_law wsX8_rollback := goodIn_r _ [468, 104, 224, 225, 226, 5, 227, 228, 229, 230, 231, 139, 140, 141, 232, 233, 234, 235, 236, 237, 238, 324, 325, 326, 327, 255, 256, 257, 258, 107, 259, 260, 261, 262, 263, 264, 265, 266, 267, 268, 269, 270, 271, 272, 273, 274, 1017, 1018, 1019, 1020, 1021, 1022, 1023, 1024, 1025, 1026, 1027, 1028, 1029] (by decide +kernel) (by decide +kernel)
set_option maxRecDepth 20000 in
theorem gL_law_X8_rollback : GoodIn wsL_law (wsV RL 55 RX8 yX8_rollback wsX8_rollback) := goodIn_app (goodIn_of _ (by decide +kernel)) ggL_law_X8_rollback
set_option maxRecDepth 20000 in
theorem ggL_law_X7_tick : GoodIn wsL_law wsX7_tick := goodIn_r _ [472, 22, 473, 474, 475, 21, 476, 60, 477, 122, 123, 124, 15, 125, 54, 316, 317, 318, 319, 1008, 1009, 1010, 1011, 1012, 1013, 1014, 1015, 1016, 1041, 1030, 1031, 1032, 1033, 1034, 1035, 1036, 1037, 1038, 1039, 1040] (by decide +kernel) (by decide +kernel)
set_option maxRecDepth 20000 in
theorem gL_law_X7_tick : GoodIn wsL_law (wsV RL 56 RX7 yX7_tick wsX7_tick) := goodIn_app (goodIn_of _ (by decide +kernel)) ggL_law_X7_tick
set_option maxRecDepth 20000 in
theorem ggL_law_X8_tick : GoodIn wsL_law wsX8_tick := goodIn_r _ [481, 104, 482, 1017, 1018, 1019, 1020, 1021, 1022, 1023, 1024, 1025, 1026, 1027, 1028, 1029] (by decide +kernel) (by decide +kernel)
set_option maxRecDepth 20000 in
theorem gL_law_X8_tick : GoodIn wsL_law (wsV RL 60 RX8 yX8_tick wsX8_tick) := goodIn_app (goodIn_of _ (by decide +kernel)) ggL_law_X8_tick
set_option maxRecDepth 20000 in
theorem ggL_law_X7_told : GoodIn wsL_law wsX7_told := goodIn_r _ [486, 26, 487, 488, 489, 25, 490, 65, 491, 163, 164, 15, 165, 45, 492, 167, 168, 169, 493, 213, 214, 215, 46, 494, 209, 210, 211, 47, 495, 446, 447, 448, 48, 496, 432, 433, 434, 435, 436, 437, 438, 166, 439, 392, 393, 394, 440, 441, 442, 443, 444, 497, 376, 377, 378, 498, 499, 500, 501, 502, 183, 184, 185, 51, 503, 337, 338, 339, 49, 504, 175, 176, 177, 50, 505, 1008, 1009, 1010, 1011, 1012, 1013, 1014, 1015, 1016, 1042, 1043, 1030, 1031, 1032, 1033, 1034, 1035, 1036, 1037, 1038, 1039, 1040] (by decide +kernel) (by decide +kernel)
set_option maxRecDepth 20000 in
theorem gL_law_X7_told : GoodIn wsL_law (wsV RL 61 RX7 yX7_told wsX7_told) := goodIn_app (goodIn_of _ (by decide +kernel)) ggL_law_X7_told
set_option maxRecDepth 20000 in
theorem ggL_law_X8_told : GoodIn wsL_law wsX8_told := goodIn_r _ [509, 104, 139, 140, 5, 141, 228, 229, 230, 231, 232, 233, 234, 235, 267, 268, 269, 270, 236, 237, 238, 453, 454, 455, 456, 399, 400, 401, 402, 263, 264, 265, 266, 271, 272, 273, 274, 510, 511, 512, 513, 403, 404, 405, 406, 1017, 1018, 1019, 1020, 1021, 1022, 1023, 1024, 1025, 1026, 1027, 1028, 1029] (by decide +kernel) (by decide +kernel)
set_option maxRecDepth 20000 in
theorem gL_law_X8_told : GoodIn wsL_law (wsV RL 64 RX8 yX8_told wsX8_told) := goodIn_app (goodIn_of _ (by decide +kernel)) ggL_law_X8_told
set_option maxRecDepth 20000 in
theorem ggL_law_X7_slot : GoodIn wsL_law wsX7_slot := goodIn_r _ [517, 26, 518, 519, 520, 25, 521, 65, 522, 523, 524, 15, 525, 162, 163, 164, 165, 45, 166, 167, 168, 169, 502, 183, 184, 185, 51, 1008, 1009, 1010, 1011, 1012, 1013, 1014, 1015, 1016, 1042, 1043, 1030, 1031, 1032, 1033, 1034, 1035, 1036, 1037, 1038, 1039, 1040] (by decide +kernel) (by decide +kernel)
set_option maxRecDepth 20000 in
theorem gL_law_X7_slot : GoodIn wsL_law (wsV RL 65 RX7 yX7_slot wsX7_slot) := goodIn_app (goodIn_of _ (by decide +kernel)) ggL_law_X7_slot
set_option maxRecDepth 20000 in
theorem ggL_law_X8_slot : GoodIn wsL_law wsX8_slot := goodIn_r _ [529, 104, 139, 140, 5, 141, 530, 531, 532, 533, 228, 229, 230, 231, 232, 233, 234, 235, 263, 264, 265, 266, 267, 268, 269, 270, 236, 237, 238, 271, 272, 273, 274, 1017, 1018, 1019, 1020, 1021, 1022, 1023, 1024, 1025, 1026, 1027, 1028, 1029] (by decide +kernel) (by decide +kernel)
set_option maxRecDepth 20000 in
theorem gL_law_X8_slot : GoodIn wsL_law (wsV RL 68 RX8 yX8_slot wsX8_slot) := goodIn_app (goodIn_of _ (by decide +kernel)) ggL_law_X8_slot
