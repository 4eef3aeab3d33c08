set_option maxRecDepth 20000 in
theorem ggL_law_X11_init : GoodIn wsL_law wsX11_init := goodIn_r _ [8, 9, 10, 11, 12, 13, 14, 15, 16, 17, 18, 19, 20, 21, 22, 23, 24, 25, 26, 27, 28, 29, 30, 31, 32, 33, 34, 35, 36, 37, 38, 39, 40, 41, 42, 43, 44, 45, 46, 47, 48, 49, 50, 51, 52, 53, 54, 55, 56, 57, 58, 59, 60, 61, 62, 63, 64, 65, 66, 67, 68, 69, 70, 71, 72, 73, 74, 75, 76, 77, 78, 79, 80, 81, 82, 83, 84, 85, 86, 87, 88, 89, 90, 91, 92, 93, 94, 95, 96, 97, 98, 99, 100, 1038, 1039, 1040, 1041, 1042, 1043, 1044, 1045, 1046, 1047, 1048, 1073, 1074, 1075, 1076, 1077, 1078, 1079, 1080, 1081, 1082, 1083, 1084, 1085, 1086, 1087, 1088, 1089, 1090, 1091, 1092, 1093, 1094, 1095, 1096, 1097, 1098, 1099, 1100, 1101, 1102, 1103] (by decide +kernel) (by decide +kernel)
set_option maxRecDepth 20000 in
theorem gL_law_X11_init : GoodIn wsL_law (wsX11_init) := ggL_law_X11_init
set_option maxRecDepth 20000 in
theorem ggL_law_X12_init : GoodIn wsL_law wsX12_init := goodIn_r _ [103, 104, 10, 11, 56, 105, 106, 107, 108, 109, 110, 111, 112, 113, 114, 115, 116, 117, 118, 119, 1049, 1050, 1051, 1052, 1053, 1054, 1055, 1056, 1057, 1058, 1059, 1060, 1061, 1062, 1063, 1064, 1065, 1066, 1067, 1068, 1069, 1070, 1071, 1072] (by decide +kernel) (by decide +kernel)
set_option maxRecDepth 20000 in
theorem gL_law_X12_init : GoodIn wsL_law (wsX12_init) := ggL_law_X12_init
set_option maxRecDepth 20000 in
theorem ggL_law_X11_row : GoodIn wsL_law wsX11_row := goodIn_r _ [123, 124, 13, 125, 126, 2, 127, 128, 129, 130, 131, 132, 133, 134, 135, 136, 137, 138, 139, 27, 140, 68, 141, 142, 143, 144, 145, 146, 147, 148, 67, 149, 150, 151, 152, 1038, 1039, 1040, 1041, 1042, 1043, 1044, 1045, 1046, 1047, 1048, 1086, 1087, 1088] (by decide +kernel) (by decide +kernel)
set_option maxRecDepth 20000 in
theorem gL_law_X11_row : GoodIn wsL_law (wsV RL 13 RX11 yX11_row wsX11_row) := goodIn_app (goodIn_of _ (by decide +kernel)) ggL_law_X11_row
set_option maxRecDepth 20000 in
theorem ggL_law_X12_row : GoodIn wsL_law wsX12_row := goodIn_r _ [156, 157, 105, 106, 107, 158, 159, 5, 160, 161, 162, 163, 164, 165, 166, 167, 168, 169, 170, 171, 172, 173, 1049, 1050, 1051, 1052, 1053, 1054, 1055, 1056, 1057, 1058, 1059, 1060, 1061, 1062, 1063, 1064, 1065, 1066, 1067, 1068, 1069, 1070, 1071, 1072] (by decide +kernel) (by decide +kernel)
set_option maxRecDepth 20000 in
theorem gL_law_X12_row : GoodIn wsL_law (wsV RL 17 RX12 yX12_row wsX12_row) := goodIn_app (goodIn_of _ (by decide +kernel)) ggL_law_X12_row
set_option maxRecDepth 20000 in
theorem ggL_law_X11_set : GoodIn wsL_law wsX11_set := goodIn_r _ [177, 124, 13, 125, 126, 2, 127, 128, 129, 130, 178, 179, 180, 27, 181, 68, 131, 132, 133, 134, 135, 136, 182, 183, 184, 185, 148, 186, 187, 188, 189, 67, 190, 191, 192, 193, 194, 149, 150, 151, 152, 1038, 1039, 1040, 1041, 1042, 1043, 1044, 1045, 1046, 1047, 1048, 1086, 1087, 1088] (by decide +kernel) (by decide +kernel)
set_option maxRecDepth 20000 in
theorem gL_law_X11_set : GoodIn wsL_law (wsV RL 18 RX11 yX11_set wsX11_set) := goodIn_app (goodIn_of _ (by decide +kernel)) ggL_law_X11_set
set_option maxRecDepth 20000 in
theorem ggL_law_X12_set : GoodIn wsL_law wsX12_set := goodIn_r _ [198, 157, 105, 106, 107, 158, 159, 5, 160, 161, 162, 163, 164, 165, 166, 167, 168, 169, 170, 171, 172, 173, 1049, 1050, 1051, 1052, 1053, 1054, 1055, 1056, 1057, 1058, 1059, 1060, 1061, 1062, 1063, 1064, 1065, 1066, 1067, 1068, 1069, 1070, 1071, 1072] (by decide +kernel) (by decide +kernel)
set_option maxRecDepth 20000 in
theorem gL_law_X12_set : GoodIn wsL_law (wsV RL 21 RX12 yX12_set wsX12_set) := goodIn_app (goodIn_of _ (by decide +kernel)) ggL_law_X12_set
set_option maxRecDepth 20000 in
theorem ggL_law_X11_copy : GoodIn wsL_law wsX11_copy := goodIn_r _ [202, 124, 13, 125, 126, 2, 127, 128, 129, 130, 178, 179, 180, 27, 181, 68, 131, 132, 133, 134, 135, 136, 182, 183, 184, 185, 148, 203, 204, 205, 206, 67, 207, 208, 209, 210, 190, 149, 150, 151, 152, 1038, 1039, 1040, 1041, 1042, 1043, 1044, 1045, 1046, 1047, 1048, 1086, 1087, 1088] (by decide +kernel) (by decide +kernel)
set_option maxRecDepth 20000 in
theorem gL_law_X11_copy : GoodIn wsL_law (wsV RL 22 RX11 yX11_copy wsX11_copy) := goodIn_app (goodIn_of _ (by decide +kernel)) ggL_law_X11_copy
set_option maxRecDepth 20000 in
theorem ggL_law_X12_copy : GoodIn wsL_law wsX12_copy := goodIn_r _ [214, 157, 105, 106, 107, 158, 159, 5, 160, 161, 162, 163, 164, 165, 166, 167, 168, 169, 215, 216, 217, 170, 171, 172, 173, 1049, 1050, 1051, 1052, 1053, 1054, 1055, 1056, 1057, 1058, 1059, 1060, 1061, 1062, 1063, 1064, 1065, 1066, 1067, 1068, 1069, 1070, 1071, 1072] (by decide +kernel) (by decide +kernel)
set_option maxRecDepth 20000 in
theorem gL_law_X12_copy : GoodIn wsL_law (wsV RL 26 RX12 yX12_copy wsX12_copy) := goodIn_app (goodIn_of _ (by decide +kernel)) ggL_law_X12_copy
set_option maxRecDepth 20000 in
theorem ggL_law_X11_drop : GoodIn wsL_law wsX11_drop := goodIn_r _ [221, 124, 13, 125, 126, 2, 127, 128, 129, 130, 178, 179, 180, 27, 181, 68, 131, 132, 133, 134, 135, 136, 222, 223, 224, 225, 148, 149, 150, 151, 152, 1038, 1039, 1040, 1041, 1042, 1043, 1044, 1045, 1046, 1047, 1048, 1086, 1087, 1088] (by decide +kernel) (by decide +kernel)
set_option maxRecDepth 20000 in
theorem gL_law_X11_drop : GoodIn wsL_law (wsV RL 27 RX11 yX11_drop wsX11_drop) := goodIn_app (goodIn_of _ (by decide +kernel)) ggL_law_X11_drop
set_option maxRecDepth 20000 in
theorem ggL_law_X12_drop : GoodIn wsL_law wsX12_drop := goodIn_r _ [229, 157, 105, 106, 158, 159, 5, 160, 161, 162, 163, 164, 165, 166, 167, 168, 169, 170, 171, 172, 173, 1049, 1050, 1051, 1052, 1053, 1054, 1055, 1056, 1057, 1058, 1059, 1060, 1061, 1062, 1063, 1064, 1065, 1066, 1067, 1068, 1069, 1070, 1071, 1072] (by decide +kernel) (by decide +kernel)
set_option maxRecDepth 20000 in
theorem gL_law_X12_drop : GoodIn wsL_law (wsV RL 31 RX12 yX12_drop wsX12_drop) := goodIn_app (goodIn_of _ (by decide +kernel)) ggL_law_X12_drop
set_option maxRecDepth 20000 in
theorem ggL_law_X11_feed : GoodIn wsL_law wsX11_feed := goodIn_r _ [233, 124, 46, 234, 128, 129, 2, 130, 235, 236, 237, 45, 238, 239, 240, 241, 242, 243, 87, 244, 1038, 1039, 1040, 1041, 1042, 1043, 1044, 1045, 1046, 1047, 1048, 1089, 1090, 1091, 1092, 1093, 1094, 1095, 1096, 1097, 1098] (by decide +kernel) (by decide +kernel)
set_option maxRecDepth 20000 in
theorem gL_law_X11_feed : GoodIn wsL_law (wsV RL 32 RX11 yX11_feed wsX11_feed) := goodIn_app (goodIn_of _ (by decide +kernel)) ggL_law_X11_feed
set_option maxRecDepth 20000 in
theorem ggL_law_X12_feed : GoodIn wsL_law wsX12_feed := goodIn_r _ [248, 157, 249, 250, 108, 161, 162, 5, 163, 1049, 1050, 1051, 1052, 1053, 1054, 1055, 1056, 1057, 1058, 1059, 1060, 1061, 1062, 1063, 1064, 1065, 1066, 1067, 1068, 1069, 1070, 1071, 1072] (by decide +kernel) (by decide +kernel)
set_option maxRecDepth 20000 in
theorem gL_law_X12_feed : GoodIn wsL_law (wsV RL 35 RX12 yX12_feed wsX12_feed) := goodIn_app (goodIn_of _ (by decide +kernel)) ggL_law_X12_feed
set_option maxRecDepth 20000 in
theorem ggL_law_X11_catalogue : GoodIn wsL_law wsX11_catalogue := goodIn_r _ [254, 46, 255, 256, 19, 257, 258, 259, 260, 45, 261, 262, 263, 239, 264, 265, 266, 267, 268, 89, 269, 270, 271, 272, 273, 274, 275, 276, 277, 278, 87, 279, 280, 281, 282, 283, 284, 285, 129, 2, 130, 286, 287, 288, 289, 290, 291, 292, 293, 294, 295, 296, 297, 18, 298, 299, 300, 301, 302, 303, 304, 305, 306, 307, 308, 309, 310, 90, 311, 312, 313, 314, 42, 315, 316, 317, 30, 318, 319, 320, 33, 321, 322, 323, 39, 324, 325, 326, 36, 327, 328, 329, 330, 331, 332, 333, 334, 335, 58, 336, 337, 338, 339, 55, 57, 59, 340, 341, 342, 343, 344, 1038, 1039, 1040, 1041, 1042, 1043, 1044, 1045, 1046, 1047, 1048, 1089, 1090, 1091, 1092, 1093, 1094, 1095, 1096, 1097, 1098, 1073, 1074, 1075, 1076, 1077, 1078, 1079, 1080] (by decide +kernel) (by decide +kernel)
set_option maxRecDepth 20000 in
theorem gL_law_X11_catalogue : GoodIn wsL_law (wsV RL 36 RX11 yX11_catalogue wsX11_catalogue) := goodIn_app (goodIn_of _ (by decide +kernel)) ggL_law_X11_catalogue
set_option maxRecDepth 20000 in
theorem ggL_law_X12_catalogue : GoodIn wsL_law wsX12_catalogue := goodIn_r _ [348, 249, 349, 350, 351, 352, 110, 109, 353, 354, 355, 356, 5, 357, 358, 359, 360, 361, 362, 363, 364, 365, 366, 367, 368, 369, 370, 371, 372, 108, 161, 162, 163, 373, 374, 375, 376, 377, 378, 379, 380, 381, 382, 383, 384, 385, 386, 387, 388, 389, 390, 391, 392, 393, 1049, 1050, 1051, 1052, 1053, 1054, 1055, 1056, 1057, 1058, 1059, 1060, 1061, 1062, 1063, 1064, 1065, 1066, 1067, 1068, 1069, 1070, 1071, 1072] (by decide +kernel) (by decide +kernel)
set_option maxRecDepth 20000 in
theorem gL_law_X12_catalogue : GoodIn wsL_law (wsV RL 40 RX12 yX12_catalogue wsX12_catalogue) := goodIn_app (goodIn_of _ (by decide +kernel)) ggL_law_X12_catalogue
set_option maxRecDepth 20000 in
theorem ggL_law_X11_fault : GoodIn wsL_law wsX11_fault := goodIn_r _ [397, 255, 1038, 1039, 1040, 1041, 1042, 1043, 1044, 1045, 1046, 1047, 1048] (by decide +kernel) (by decide +kernel)
set_option maxRecDepth 20000 in
theorem gL_law_X11_fault : GoodIn wsL_law (wsV RL 41 RX11 yX11_fault wsX11_fault) := goodIn_app (goodIn_of _ (by decide +kernel)) ggL_law_X11_fault
set_option maxRecDepth 20000 in
theorem ggL_law_X12_fault : GoodIn wsL_law wsX12_fault := goodIn_r _ [401, 350, 1049, 1050, 1051, 1052, 1053, 1054, 1055, 1056, 1057, 1058, 1059, 1060, 1061, 1062, 1063, 1064, 1065, 1066, 1067, 1068, 1069, 1070, 1071, 1072] (by decide +kernel) (by decide +kernel)
set_option maxRecDepth 20000 in
theorem gL_law_X12_fault : GoodIn wsL_law (wsV RL 44 RX12 yX12_fault wsX12_fault) := goodIn_app (goodIn_of _ (by decide +kernel)) ggL_law_X12_fault
set_option maxRecDepth 20000 in
theorem ggL_law_X11_nights : GoodIn wsL_law wsX11_nights := goodIn_r _ [405, 19, 406, 124, 234, 407, 408, 409, 18, 410, 301, 128, 129, 2, 130, 411, 412, 413, 414, 257, 20, 415, 416, 417, 418, 340, 341, 342, 343, 299, 300, 302, 55, 57, 58, 59, 344, 296, 297, 298, 419, 420, 421, 422, 423, 424, 425, 426, 72, 427, 428, 429, 430, 431, 33, 432, 433, 434, 435, 436, 437, 438, 42, 439, 440, 441, 442, 443, 444, 445, 446, 447, 448, 449, 450, 451, 30, 452, 453, 454, 455, 456, 457, 458, 459, 460, 461, 462, 463, 464, 465, 466, 329, 330, 331, 332, 333, 334, 335, 467, 468, 469, 470, 471, 472, 473, 474, 475, 476, 36, 477, 478, 479, 480, 481, 482, 39, 483, 484, 485, 486, 487, 488, 489, 1038, 1039, 1040, 1041, 1042, 1043, 1044, 1045, 1046, 1047, 1048, 1073, 1074, 1075, 1076, 1077, 1078, 1079, 1080] (by decide +kernel) (by decide +kernel)
set_option maxRecDepth 20000 in
theorem gL_law_X11_nights : GoodIn wsL_law (wsV RL 45 RX11 yX11_nights wsX11_nights) := goodIn_app (goodIn_of _ (by decide +kernel)) ggL_law_X11_nights
set_option maxRecDepth 20000 in
theorem ggL_law_X12_nights : GoodIn wsL_law wsX12_nights := goodIn_r _ [493, 494, 157, 109, 250, 495, 496, 497, 5, 498, 161, 162, 163, 499, 500, 501, 502, 353, 116, 391, 392, 393, 503, 504, 505, 506, 507, 508, 509, 510, 511, 512, 513, 514, 515, 516, 517, 518, 519, 520, 521, 522, 523, 524, 525, 526, 527, 528, 529, 530, 388, 389, 390, 531, 532, 533, 534, 535, 536, 1049, 1050, 1051, 1052, 1053, 1054, 1055, 1056, 1057, 1058, 1059, 1060, 1061, 1062, 1063, 1064, 1065, 1066, 1067, 1068, 1069, 1070, 1071, 1072] (by decide +kernel) (by decide +kernel)
set_option maxRecDepth 20000 in
theorem gL_law_X12_nights : GoodIn wsL_law (wsV RL 48 RX12 yX12_nights wsX12_nights) := goodIn_app (goodIn_of _ (by decide +kernel)) ggL_law_X12_nights
set_option maxRecDepth 20000 in
theorem ggL_law_X11_put : GoodIn wsL_law wsX11_put := goodIn_r _ [540, 19, 124, 406, 541, 542, 459, 460, 18, 461, 301, 543, 544, 545, 546, 299, 547, 329, 330, 331, 300, 332, 333, 334, 335, 58, 411, 412, 413, 2, 414, 257, 20, 415, 416, 417, 418, 340, 341, 342, 343, 302, 55, 57, 59, 344, 296, 297, 298, 548, 468, 469, 470, 458, 1038, 1039, 1040, 1041, 1042, 1043, 1044, 1045, 1046, 1047, 1048, 1073, 1074, 1075, 1076, 1077, 1078, 1079, 1080] (by decide +kernel) (by decide +kernel)
set_option maxRecDepth 20000 in
theorem gL_law_X11_put : GoodIn wsL_law (wsV RL 49 RX11 yX11_put wsX11_put) := goodIn_app (goodIn_of _ (by decide +kernel)) ggL_law_X11_put
set_option maxRecDepth 20000 in
theorem ggL_law_X12_put : GoodIn wsL_law wsX12_put := goodIn_r _ [552, 157, 109, 494, 553, 554, 555, 5, 556, 161, 162, 163, 557, 558, 559, 560, 388, 389, 390, 499, 500, 501, 502, 353, 116, 391, 392, 393, 531, 532, 533, 525, 526, 527, 528, 529, 530, 1049, 1050, 1051, 1052, 1053, 1054, 1055, 1056, 1057, 1058, 1059, 1060, 1061, 1062, 1063, 1064, 1065, 1066, 1067, 1068, 1069, 1070, 1071, 1072] (by decide +kernel) (by decide +kernel)
set_option maxRecDepth 20000 in
theorem gL_law_X12_put : GoodIn wsL_law (wsV RL 53 RX12 yX12_put wsX12_put) := goodIn_app (goodIn_of _ (by decide +kernel)) ggL_law_X12_put
set_option maxRecDepth 20000 in
theorem ggL_law_X11_turn : GoodIn wsL_law wsX11_turn := goodIn_r _ [564, 19, 124, 543, 544, 545, 18, 546, 299, 411, 412, 413, 2, 414, 257, 20, 415, 416, 417, 418, 340, 341, 342, 343, 300, 301, 302, 55, 57, 58, 59, 344, 296, 297, 298, 565, 566, 567, 568, 332, 333, 334, 335, 569, 1038, 1039, 1040, 1041, 1042, 1043, 1044, 1045, 1046, 1047, 1048, 1073, 1074, 1075, 1076, 1077, 1078, 1079, 1080] (by decide +kernel) (by decide +kernel)
set_option maxRecDepth 20000 in
theorem gL_law_X11_turn : GoodIn wsL_law (wsV RL 54 RX11 yX11_turn wsX11_turn) := goodIn_app (goodIn_of _ (by decide +kernel)) ggL_law_X11_turn
set_option maxRecDepth 20000 in
theorem ggL_law_X12_turn : GoodIn wsL_law wsX12_turn := goodIn_r _ [573, 157, 109, 557, 558, 559, 5, 560, 161, 162, 163, 499, 500, 501, 502, 353, 116, 391, 392, 393, 388, 389, 390, 1049, 1050, 1051, 1052, 1053, 1054, 1055, 1056, 1057, 1058, 1059, 1060, 1061, 1062, 1063, 1064, 1065, 1066, 1067, 1068, 1069, 1070, 1071, 1072] (by decide +kernel) (by decide +kernel)
set_option maxRecDepth 20000 in
theorem gL_law_X12_turn : GoodIn wsL_law (wsV RL 57 RX12 yX12_turn wsX12_turn) := goodIn_app (goodIn_of _ (by decide +kernel)) ggL_law_X12_turn
set_option maxRecDepth 20000 in
theorem ggL_law_X11_like : GoodIn wsL_law wsX11_like := goodIn_r _ [577, 19, 124, 542, 459, 460, 18, 461, 301, 128, 129, 2, 130, 411, 412, 413, 414, 257, 20, 415, 416, 417, 418, 340, 341, 342, 343, 299, 300, 302, 55, 57, 58, 59, 344, 296, 297, 298, 1038, 1039, 1040, 1041, 1042, 1043, 1044, 1045, 1046, 1047, 1048, 1073, 1074, 1075, 1076, 1077, 1078, 1079, 1080] (by decide +kernel) (by decide +kernel)
set_option maxRecDepth 20000 in
theorem gL_law_X11_like : GoodIn wsL_law (wsV RL 58 RX11 yX11_like wsX11_like) := goodIn_app (goodIn_of _ (by decide +kernel)) ggL_law_X11_like
set_option maxRecDepth 20000 in
theorem ggL_law_X12_like : GoodIn wsL_law wsX12_like := goodIn_r _ [581, 157, 109, 553, 554, 555, 5, 556, 161, 162, 163, 499, 500, 501, 502, 353, 116, 391, 392, 393, 1049, 1050, 1051, 1052, 1053, 1054, 1055, 1056, 1057, 1058, 1059, 1060, 1061, 1062, 1063, 1064, 1065, 1066, 1067, 1068, 1069, 1070, 1071, 1072] (by decide +kernel) (by decide +kernel)
set_option maxRecDepth 20000 in
theorem gL_law_X12_like : GoodIn wsL_law (wsV RL 61 RX12 yX12_like wsX12_like) := goodIn_app (goodIn_of _ (by decide +kernel)) ggL_law_X12_like
set_option maxRecDepth 20000 in
theorem ggL_law_X11_undo : GoodIn wsL_law wsX11_undo := goodIn_r _ [585, 257, 406, 19, 20, 340, 341, 342, 18, 343, 299, 300, 301, 302, 55, 57, 58, 59, 344, 296, 297, 298, 1038, 1039, 1040, 1041, 1042, 1043, 1044, 1045, 1046, 1047, 1048, 1073, 1074, 1075, 1076, 1077, 1078, 1079, 1080] (by decide +kernel) (by decide +kernel)
set_option maxRecDepth 20000 in
theorem gL_law_X11_undo : GoodIn wsL_law (wsV RL 62 RX11 yX11_undo wsX11_undo) := goodIn_app (goodIn_of _ (by decide +kernel)) ggL_law_X11_undo
set_option maxRecDepth 20000 in
theorem ggL_law_X12_undo : GoodIn wsL_law wsX12_undo := goodIn_r _ [589, 353, 494, 116, 109, 391, 392, 5, 393, 1049, 1050, 1051, 1052, 1053, 1054, 1055, 1056, 1057, 1058, 1059, 1060, 1061, 1062, 1063, 1064, 1065, 1066, 1067, 1068, 1069, 1070, 1071, 1072] (by decide +kernel) (by decide +kernel)
set_option maxRecDepth 20000 in
theorem gL_law_X12_undo : GoodIn wsL_law (wsV RL 65 RX12 yX12_undo wsX12_undo) := goodIn_app (goodIn_of _ (by decide +kernel)) ggL_law_X12_undo
set_option maxRecDepth 20000 in
theorem ggL_law_X11_card : GoodIn wsL_law wsX11_card := goodIn_r _ [593, 19, 124, 542, 459, 460, 18, 461, 301, 594, 442, 443, 444, 58, 59, 445, 1038, 1039, 1040, 1041, 1042, 1043, 1044, 1045, 1046, 1047, 1048, 1073, 1074, 1075, 1076, 1077, 1078, 1079, 1080] (by decide +kernel) (by decide +kernel)
set_option maxRecDepth 20000 in
theorem gL_law_X11_card : GoodIn wsL_law (wsV RL 66 RX11 yX11_card wsX11_card) := goodIn_app (goodIn_of _ (by decide +kernel)) ggL_law_X11_card
set_option maxRecDepth 20000 in
theorem ggL_law_X12_card : GoodIn wsL_law wsX12_card := goodIn_r _ [598, 157, 109, 553, 554, 555, 5, 556, 161, 162, 163, 515, 516, 517, 518, 1049, 1050, 1051, 1052, 1053, 1054, 1055, 1056, 1057, 1058, 1059, 1060, 1061, 1062, 1063, 1064, 1065, 1066, 1067, 1068, 1069, 1070, 1071, 1072] (by decide +kernel) (by decide +kernel)
set_option maxRecDepth 20000 in
theorem gL_law_X12_card : GoodIn wsL_law (wsV RL 69 RX12 yX12_card wsX12_card) := goodIn_app (goodIn_of _ (by decide +kernel)) ggL_law_X12_card
set_option maxRecDepth 20000 in
theorem ggL_law_X11_drawer : GoodIn wsL_law wsX11_drawer := goodIn_r _ [602, 19, 124, 543, 544, 545, 18, 546, 299, 569, 333, 334, 335, 301, 58, 603, 604, 605, 606, 594, 442, 443, 444, 59, 445, 1038, 1039, 1040, 1041, 1042, 1043, 1044, 1045, 1046, 1047, 1048, 1073, 1074, 1075, 1076, 1077, 1078, 1079, 1080] (by decide +kernel) (by decide +kernel)
set_option maxRecDepth 20000 in
theorem gL_law_X11_drawer : GoodIn wsL_law (wsV RL 70 RX11 yX11_drawer wsX11_drawer) := goodIn_app (goodIn_of _ (by decide +kernel)) ggL_law_X11_drawer
set_option maxRecDepth 20000 in
theorem ggL_law_X12_drawer : GoodIn wsL_law wsX12_drawer := goodIn_r _ [610, 157, 109, 557, 558, 559, 5, 560, 161, 162, 163, 388, 389, 390, 611, 612, 613, 515, 516, 517, 518, 1049, 1050, 1051, 1052, 1053, 1054, 1055, 1056, 1057, 1058, 1059, 1060, 1061, 1062, 1063, 1064, 1065, 1066, 1067, 1068, 1069, 1070, 1071, 1072] (by decide +kernel) (by decide +kernel)
set_option maxRecDepth 20000 in
theorem gL_law_X12_drawer : GoodIn wsL_law (wsV RL 73 RX12 yX12_drawer wsX12_drawer) := goodIn_app (goodIn_of _ (by decide +kernel)) ggL_law_X12_drawer
set_option maxRecDepth 20000 in
theorem ggL_law_X11_ahead : GoodIn wsL_law wsX11_ahead := goodIn_r _ [617, 19, 124, 50, 542, 459, 460, 18, 461, 301, 128, 129, 2, 130, 618, 619, 620, 49, 621, 96, 99, 622, 341, 342, 343, 299, 300, 302, 55, 57, 58, 59, 344, 296, 297, 298, 623, 420, 421, 422, 423, 424, 425, 426, 72, 427, 428, 429, 430, 431, 33, 432, 433, 434, 435, 436, 437, 438, 42, 439, 440, 441, 442, 443, 444, 445, 446, 447, 448, 449, 450, 451, 30, 452, 453, 454, 455, 456, 457, 458, 462, 463, 464, 465, 466, 329, 330, 331, 332, 333, 334, 335, 467, 468, 469, 470, 471, 472, 473, 474, 475, 476, 36, 477, 478, 479, 480, 481, 482, 39, 483, 484, 1038, 1039, 1040, 1041, 1042, 1043, 1044, 1045, 1046, 1047, 1048, 1073, 1074, 1075, 1076, 1077, 1078, 1079, 1080, 1099, 1100, 1101, 1102, 1103] (by decide +kernel) (by decide +kernel)
set_option maxRecDepth 20000 in
theorem gL_law_X11_ahead : GoodIn wsL_law (wsV RL 74 RX11 yX11_ahead wsX11_ahead) := goodIn_app (goodIn_of _ (by decide +kernel)) ggL_law_X11_ahead
set_option maxRecDepth 20000 in
theorem ggL_law_X12_ahead : GoodIn wsL_law wsX12_ahead := goodIn_r _ [627, 157, 111, 553, 554, 555, 5, 556, 109, 161, 162, 163, 628, 629, 630, 631, 391, 392, 393, 632, 633, 634, 635, 503, 504, 505, 506, 507, 508, 509, 510, 511, 512, 513, 514, 515, 516, 517, 518, 519, 520, 521, 522, 523, 524, 525, 526, 527, 528, 529, 530, 388, 389, 390, 531, 532, 533, 1049, 1050, 1051, 1052, 1053, 1054, 1055, 1056, 1057, 1058, 1059, 1060, 1061, 1062, 1063, 1064, 1065, 1066, 1067, 1068, 1069, 1070, 1071, 1072] (by decide +kernel) (by decide +kernel)
set_option maxRecDepth 20000 in
theorem gL_law_X12_ahead : GoodIn wsL_law (wsV RL 77 RX12 yX12_ahead wsX12_ahead) := goodIn_app (goodIn_of _ (by decide +kernel)) ggL_law_X12_ahead
set_option maxRecDepth 20000 in
theorem ggL_law_X11_found : GoodIn wsL_law wsX11_found := goodIn_r _ [639, 19, 124, 50, 542, 459, 460, 18, 461, 301, 543, 544, 545, 546, 299, 640, 641, 642, 49, 643, 96, 99, 644, 622, 341, 342, 343, 300, 302, 55, 57, 58, 59, 344, 296, 297, 298, 623, 420, 421, 422, 423, 424, 425, 426, 72, 427, 428, 429, 430, 431, 33, 432, 433, 434, 435, 436, 437, 438, 42, 439, 440, 441, 442, 443, 444, 445, 446, 447, 448, 449, 450, 451, 30, 452, 453, 454, 455, 456, 457, 458, 462, 463, 464, 465, 466, 329, 330, 331, 332, 333, 334, 335, 467, 468, 469, 470, 471, 472, 473, 474, 475, 476, 36, 477, 478, 479, 480, 481, 482, 39, 483, 484, 1038, 1039, 1040, 1041, 1042, 1043, 1044, 1045, 1046, 1047, 1048, 1073, 1074, 1075, 1076, 1077, 1078, 1079, 1080, 1099, 1100, 1101, 1102, 1103] (by decide +kernel) (by decide +kernel)
set_option maxRecDepth 20000 in
theorem gL_law_X11_found : GoodIn wsL_law (wsV RL 78 RX11 yX11_found wsX11_found) := goodIn_app (goodIn_of _ (by decide +kernel)) ggL_law_X11_found
set_option maxRecDepth 20000 in
theorem ggL_law_X12_found : GoodIn wsL_law wsX12_found := goodIn_r _ [648, 157, 111, 518, 553, 554, 555, 5, 556, 109, 161, 162, 163, 557, 558, 559, 560, 628, 629, 630, 631, 391, 392, 393, 632, 633, 634, 635, 503, 504, 505, 506, 507, 508, 509, 510, 511, 512, 513, 514, 515, 516, 517, 519, 520, 521, 522, 523, 524, 525, 526, 527, 528, 529, 530, 388, 389, 390, 531, 532, 533, 1049, 1050, 1051, 1052, 1053, 1054, 1055, 1056, 1057, 1058, 1059, 1060, 1061, 1062, 1063, 1064, 1065, 1066, 1067, 1068, 1069, 1070, 1071, 1072] (by decide +kernel) (by decide +kernel)
set_option maxRecDepth 20000 in
theorem gL_law_X12_found : GoodIn wsL_law (wsV RL 81 RX12 yX12_found wsX12_found) := goodIn_app (goodIn_of _ (by decide +kernel)) ggL_law_X12_found
set_option maxRecDepth 20000 in
theorem ggL_law_X11_still : GoodIn wsL_law wsX11_still := goodIn_r _ [652, 19, 406, 124, 50, 407, 408, 409, 18, 410, 301, 128, 129, 2, 130, 653, 654, 655, 49, 656, 96, 99, 97, 644, 622, 341, 342, 343, 299, 300, 302, 55, 57, 58, 59, 344, 296, 297, 298, 623, 420, 421, 422, 423, 424, 425, 426, 72, 427, 428, 429, 430, 431, 33, 432, 433, 434, 435, 436, 437, 438, 42, 439, 440, 441, 442, 443, 444, 445, 446, 447, 448, 449, 450, 451, 30, 452, 453, 454, 455, 456, 457, 458, 459, 460, 461, 462, 463, 464, 465, 466, 329, 330, 331, 332, 333, 334, 335, 467, 468, 469, 470, 471, 472, 473, 474, 475, 476, 36, 477, 478, 479, 480, 481, 482, 39, 483, 484, 657, 658, 659, 660, 661, 662, 663, 664, 1038, 1039, 1040, 1041, 1042, 1043, 1044, 1045, 1046, 1047, 1048, 1073, 1074, 1075, 1076, 1077, 1078, 1079, 1080, 1099, 1100, 1101, 1102, 1103] (by decide +kernel) (by decide +kernel)
set_option maxRecDepth 20000 in
theorem gL_law_X11_still : GoodIn wsL_law (wsV RL 82 RX11 yX11_still wsX11_still) := goodIn_app (goodIn_of _ (by decide +kernel)) ggL_law_X11_still
set_option maxRecDepth 20000 in
theorem ggL_law_X12_still : GoodIn wsL_law wsX12_still := goodIn_r _ [668, 494, 157, 111, 112, 109, 518, 495, 496, 497, 5, 498, 161, 162, 163, 628, 629, 630, 631, 391, 392, 393, 632, 633, 634, 635, 503, 504, 505, 506, 507, 508, 509, 510, 511, 512, 513, 514, 515, 516, 517, 519, 520, 521, 522, 523, 524, 525, 526, 527, 528, 529, 530, 388, 389, 390, 531, 532, 533, 669, 670, 671, 672, 1049, 1050, 1051, 1052, 1053, 1054, 1055, 1056, 1057, 1058, 1059, 1060, 1061, 1062, 1063, 1064, 1065, 1066, 1067, 1068, 1069, 1070, 1071, 1072] (by decide +kernel) (by decide +kernel)
set_option maxRecDepth 20000 in
theorem gL_law_X12_still : GoodIn wsL_law (wsV RL 85 RX12 yX12_still wsX12_still) := goodIn_app (goodIn_of _ (by decide +kernel)) ggL_law_X12_still
set_option maxRecDepth 20000 in
theorem ggL_law_X11_mates : GoodIn wsL_law wsX11_mates := goodIn_r _ [676, 19, 406, 407, 408, 409, 18, 410, 301, 485, 486, 487, 488, 445, 58, 59, 489, 455, 456, 457, 57, 458, 459, 460, 461, 1038, 1039, 1040, 1041, 1042, 1043, 1044, 1045, 1046, 1047, 1048, 1073, 1074, 1075, 1076, 1077, 1078, 1079, 1080] (by decide +kernel) (by decide +kernel)
set_option maxRecDepth 20000 in
theorem gL_law_X11_mates : GoodIn wsL_law (wsV RL 86 RX11 yX11_mates wsX11_mates) := goodIn_app (goodIn_of _ (by decide +kernel)) ggL_law_X11_mates
set_option maxRecDepth 20000 in
theorem ggL_law_X12_mates : GoodIn wsL_law wsX12_mates := goodIn_r _ [680, 109, 494, 495, 496, 497, 5, 498, 534, 535, 536, 515, 516, 517, 518, 1049, 1050, 1051, 1052, 1053, 1054, 1055, 1056, 1057, 1058, 1059, 1060, 1061, 1062, 1063, 1064, 1065, 1066, 1067, 1068, 1069, 1070, 1071, 1072] (by decide +kernel) (by decide +kernel)
set_option maxRecDepth 20000 in
theorem gL_law_X12_mates : GoodIn wsL_law (wsV RL 89 RX12 yX12_mates wsX12_mates) := goodIn_app (goodIn_of _ (by decide +kernel)) ggL_law_X12_mates
set_option maxRecDepth 20000 in
theorem ggL_law_X11_rods : GoodIn wsL_law wsX11_rods := goodIn_r _ [684, 19, 124, 50, 541, 542, 459, 460, 18, 461, 301, 543, 544, 545, 546, 299, 128, 129, 2, 130, 685, 686, 687, 49, 688, 644, 99, 689, 690, 691, 692, 693, 694, 695, 696, 697, 698, 699, 96, 100, 622, 341, 342, 343, 300, 302, 55, 57, 58, 59, 344, 296, 297, 298, 623, 420, 421, 422, 423, 424, 425, 426, 72, 427, 428, 429, 430, 431, 33, 432, 433, 434, 435, 436, 437, 438, 42, 439, 440, 441, 442, 443, 444, 445, 446, 447, 448, 449, 450, 451, 30, 452, 453, 454, 455, 456, 457, 458, 462, 463, 464, 465, 466, 329, 330, 331, 332, 333, 334, 335, 467, 468, 469, 470, 471, 472, 473, 474, 475, 476, 36, 477, 478, 479, 480, 481, 482, 39, 483, 484, 700, 1038, 1039, 1040, 1041, 1042, 1043, 1044, 1045, 1046, 1047, 1048, 1073, 1074, 1075, 1076, 1077, 1078, 1079, 1080, 1099, 1100, 1101, 1102, 1103] (by decide +kernel) (by decide +kernel)
set_option maxRecDepth 20000 in
theorem gL_law_X11_rods : GoodIn wsL_law (wsV RL 90 RX11 yX11_rods wsX11_rods) := goodIn_app (goodIn_of _ (by decide +kernel)) ggL_law_X11_rods
set_option maxRecDepth 20000 in
theorem ggL_law_X12_rods : GoodIn wsL_law wsX12_rods := goodIn_r _ [704, 157, 518, 109, 111, 553, 554, 555, 5, 556, 161, 162, 163, 557, 558, 559, 560, 705, 706, 707, 628, 629, 630, 631, 391, 392, 393, 506, 507, 508, 632, 633, 634, 635, 503, 504, 505, 509, 510, 511, 512, 513, 514, 515, 516, 517, 519, 520, 521, 522, 523, 524, 525, 526, 527, 528, 529, 530, 388, 389, 390, 531, 532, 533, 1049, 1050, 1051, 1052, 1053, 1054, 1055, 1056, 1057, 1058, 1059, 1060, 1061, 1062, 1063, 1064, 1065, 1066, 1067, 1068, 1069, 1070, 1071, 1072] (by decide +kernel) (by decide +kernel)
set_option maxRecDepth 20000 in
theorem gL_law_X12_rods : GoodIn wsL_law (wsV RL 94 RX12 yX12_rods wsX12_rods) := goodIn_app (goodIn_of _ (by decide +kernel)) ggL_law_X12_rods
set_option maxRecDepth 20000 in
theorem ggL_law_X11_tour : GoodIn wsL_law wsX11_tour := goodIn_r _ [711, 19, 406, 124, 50, 407, 408, 409, 18, 410, 301, 128, 129, 2, 130, 712, 713, 714, 49, 715, 99, 716, 717, 718, 719, 96, 98, 622, 341, 342, 343, 299, 300, 302, 55, 57, 58, 59, 344, 296, 297, 298, 720, 604, 605, 606, 623, 420, 421, 422, 423, 424, 425, 426, 72, 427, 428, 429, 430, 431, 33, 432, 433, 434, 435, 436, 437, 438, 42, 439, 440, 441, 442, 443, 444, 445, 446, 447, 448, 449, 450, 451, 30, 452, 453, 454, 455, 456, 457, 458, 459, 460, 461, 462, 463, 464, 465, 466, 329, 330, 331, 332, 333, 334, 335, 467, 468, 469, 470, 471, 472, 473, 474, 475, 476, 36, 477, 478, 479, 480, 481, 482, 39, 483, 484, 721, 722, 723, 724, 725, 146, 143, 147, 689, 690, 691, 692, 693, 694, 695, 726, 727, 728, 729, 1038, 1039, 1040, 1041, 1042, 1043, 1044, 1045, 1046, 1047, 1048, 1073, 1074, 1075, 1076, 1077, 1078, 1079, 1080, 1099, 1100, 1101, 1102, 1103] (by decide +kernel) (by decide +kernel)
set_option maxRecDepth 20000 in
theorem gL_law_X11_tour : GoodIn wsL_law (wsV RL 95 RX11 yX11_tour wsX11_tour) := goodIn_app (goodIn_of _ (by decide +kernel)) ggL_law_X11_tour
set_option maxRecDepth 20000 in
theorem ggL_law_X12_tour : GoodIn wsL_law wsX12_tour := goodIn_r _ [733, 494, 157, 109, 119, 111, 495, 496, 497, 5, 498, 161, 162, 163, 628, 629, 630, 631, 391, 392, 393, 611, 612, 613, 632, 633, 634, 635, 503, 504, 505, 506, 507, 508, 509, 510, 511, 512, 513, 514, 515, 516, 517, 518, 519, 520, 521, 522, 523, 524, 525, 526, 527, 528, 529, 530, 388, 389, 390, 531, 532, 533, 557, 558, 559, 560, 705, 706, 707, 1049, 1050, 1051, 1052, 1053, 1054, 1055, 1056, 1057, 1058, 1059, 1060, 1061, 1062, 1063, 1064, 1065, 1066, 1067, 1068, 1069, 1070, 1071, 1072] (by decide +kernel) (by decide +kernel)
set_option maxRecDepth 20000 in
theorem gL_law_X12_tour : GoodIn wsL_law (wsV RL 98 RX12 yX12_tour wsX12_tour) := goodIn_app (goodIn_of _ (by decide +kernel)) ggL_law_X12_tour
set_option maxRecDepth 20000 in
theorem ggL_law_X11_fits : GoodIn wsL_law wsX11_fits := goodIn_r _ [737, 19, 124, 13, 50, 542, 459, 460, 18, 461, 301, 125, 126, 2, 127, 128, 129, 130, 178, 179, 180, 27, 181, 68, 131, 132, 133, 134, 135, 136, 182, 183, 184, 185, 148, 738, 739, 740, 49, 741, 96, 99, 622, 341, 342, 343, 299, 300, 302, 55, 57, 58, 59, 344, 296, 297, 298, 742, 743, 744, 745, 100, 644, 746, 544, 545, 546, 747, 468, 469, 470, 458, 332, 333, 334, 335, 748, 749, 750, 751, 623, 420, 421, 422, 423, 424, 425, 426, 72, 427, 428, 429, 430, 431, 33, 432, 433, 434, 435, 436, 437, 438, 42, 439, 440, 441, 442, 443, 444, 445, 446, 447, 448, 449, 450, 451, 30, 452, 453, 454, 455, 456, 457, 462, 463, 464, 465, 466, 329, 330, 331, 467, 471, 472, 473, 474, 475, 476, 36, 477, 478, 479, 480, 481, 482, 39, 483, 484, 752, 192, 193, 194, 67, 190, 149, 150, 151, 152, 1038, 1039, 1040, 1041, 1042, 1043, 1044, 1045, 1046, 1047, 1048, 1073, 1074, 1075, 1076, 1077, 1078, 1079, 1080, 1086, 1087, 1088, 1099, 1100, 1101, 1102, 1103] (by decide +kernel) (by decide +kernel)
set_option maxRecDepth 20000 in
theorem gL_law_X11_fits : GoodIn wsL_law (wsV RL 99 RX11 yX11_fits wsX11_fits) := goodIn_app (goodIn_of _ (by decide +kernel)) ggL_law_X11_fits
set_option maxRecDepth 20000 in
theorem ggL_law_X12_fits : GoodIn wsL_law wsX12_fits := goodIn_r _ [756, 157, 109, 111, 553, 554, 555, 5, 556, 161, 162, 163, 158, 159, 160, 757, 758, 759, 760, 105, 106, 118, 107, 164, 165, 166, 167, 168, 169, 215, 216, 217, 628, 629, 630, 631, 391, 392, 393, 531, 532, 533, 525, 526, 527, 388, 389, 390, 528, 529, 530, 761, 762, 763, 764, 632, 633, 634, 635, 503, 504, 505, 506, 507, 508, 509, 510, 511, 512, 513, 514, 515, 516, 517, 518, 519, 520, 521, 522, 523, 524, 170, 171, 172, 173, 1049, 1050, 1051, 1052, 1053, 1054, 1055, 1056, 1057, 1058, 1059, 1060, 1061, 1062, 1063, 1064, 1065, 1066, 1067, 1068, 1069, 1070, 1071, 1072] (by decide +kernel) (by decide +kernel)
set_option maxRecDepth 20000 in
theorem gL_law_X12_fits : GoodIn wsL_law (wsV RL 102 RX12 yX12_fits wsX12_fits) := goodIn_app (goodIn_of _ (by decide +kernel)) ggL_law_X12_fits
set_option maxRecDepth 20000 in
theorem ggL_law_X11_asleep : GoodIn wsL_law wsX11_asleep := goodIn_r _ [768, 19, 124, 50, 542, 459, 460, 18, 461, 301, 543, 544, 545, 546, 299, 128, 129, 2, 130, 769, 770, 771, 49, 772, 99, 96, 773, 774, 143, 775, 622, 341, 342, 343, 300, 302, 55, 57, 58, 59, 344, 296, 297, 298, 623, 420, 421, 422, 423, 424, 425, 426, 72, 427, 428, 429, 430, 431, 33, 432, 433, 434, 435, 436, 437, 438, 42, 439, 440, 441, 442, 443, 444, 445, 446, 447, 448, 449, 450, 451, 30, 452, 453, 454, 455, 456, 457, 458, 462, 463, 464, 465, 466, 329, 330, 331, 332, 333, 334, 335, 467, 468, 469, 470, 471, 472, 473, 474, 475, 476, 36, 477, 478, 479, 480, 481, 482, 39, 483, 484, 689, 690, 691, 692, 693, 694, 695, 776, 777, 778, 779, 780, 781, 782, 783, 784, 785, 1038, 1039, 1040, 1041, 1042, 1043, 1044, 1045, 1046, 1047, 1048, 1073, 1074, 1075, 1076, 1077, 1078, 1079, 1080, 1099, 1100, 1101, 1102, 1103] (by decide +kernel) (by decide +kernel)
set_option maxRecDepth 20000 in
theorem gL_law_X11_asleep : GoodIn wsL_law (wsV RL 103 RX11 yX11_asleep wsX11_asleep) := goodIn_app (goodIn_of _ (by decide +kernel)) ggL_law_X11_asleep
set_option maxRecDepth 20000 in
theorem ggL_law_X12_asleep : GoodIn wsL_law wsX12_asleep := goodIn_r _ [789, 157, 109, 111, 553, 554, 555, 5, 556, 161, 162, 163, 557, 558, 559, 560, 506, 507, 508, 628, 629, 630, 631, 391, 392, 393, 503, 504, 505, 509, 510, 511, 512, 513, 514, 515, 516, 517, 518, 519, 520, 521, 522, 523, 524, 525, 526, 527, 528, 529, 530, 388, 389, 390, 531, 532, 533, 1049, 1050, 1051, 1052, 1053, 1054, 1055, 1056, 1057, 1058, 1059, 1060, 1061, 1062, 1063, 1064, 1065, 1066, 1067, 1068, 1069, 1070, 1071, 1072] (by decide +kernel) (by decide +kernel)
set_option maxRecDepth 20000 in
theorem gL_law_X12_asleep : GoodIn wsL_law (wsV RL 106 RX12 yX12_asleep wsX12_asleep) := goodIn_app (goodIn_of _ (by decide +kernel)) ggL_law_X12_asleep
set_option maxRecDepth 20000 in
theorem ggL_law_X11_drawn : GoodIn wsL_law wsX11_drawn := goodIn_r _ [793, 19, 406, 794, 124, 50, 407, 408, 409, 18, 410, 301, 128, 129, 2, 130, 795, 796, 797, 49, 798, 96, 99, 799, 800, 622, 341, 342, 343, 299, 300, 302, 55, 57, 58, 59, 344, 296, 297, 298, 801, 802, 803, 804, 644, 805, 329, 330, 331, 332, 333, 334, 335, 747, 468, 469, 470, 458, 459, 460, 461, 623, 420, 421, 422, 423, 424, 425, 426, 72, 427, 428, 429, 430, 431, 33, 432, 433, 434, 435, 436, 437, 438, 42, 439, 440, 441, 442, 443, 444, 445, 446, 447, 448, 449, 450, 451, 30, 452, 453, 454, 455, 456, 457, 462, 463, 464, 465, 466, 467, 471, 472, 473, 474, 475, 476, 36, 477, 478, 479, 480, 481, 482, 39, 483, 484, 806, 486, 487, 488, 489, 689, 690, 691, 692, 693, 694, 695, 807, 808, 809, 810, 1038, 1039, 1040, 1041, 1042, 1043, 1044, 1045, 1046, 1047, 1048, 1073, 1074, 1075, 1076, 1077, 1078, 1079, 1080, 1099, 1100, 1101, 1102, 1103] (by decide +kernel) (by decide +kernel)
set_option maxRecDepth 20000 in
theorem gL_law_X11_drawn : GoodIn wsL_law (wsV RL 107 RX11 yX11_drawn wsX11_drawn) := goodIn_app (goodIn_of _ (by decide +kernel)) ggL_law_X11_drawn
set_option maxRecDepth 20000 in
theorem ggL_law_X12_drawn : GoodIn wsL_law wsX12_drawn := goodIn_r _ [814, 494, 815, 157, 816, 817, 109, 111, 495, 496, 497, 5, 498, 161, 162, 163, 628, 629, 630, 631, 391, 392, 393, 388, 389, 390, 531, 532, 533, 525, 526, 527, 528, 529, 530, 632, 633, 634, 635, 503, 504, 505, 506, 507, 508, 509, 510, 511, 512, 513, 514, 515, 516, 517, 518, 519, 520, 521, 522, 523, 524, 534, 535, 536, 705, 706, 707, 818, 819, 820, 1049, 1050, 1051, 1052, 1053, 1054, 1055, 1056, 1057, 1058, 1059, 1060, 1061, 1062, 1063, 1064, 1065, 1066, 1067, 1068, 1069, 1070, 1071, 1072] (by decide +kernel) (by decide +kernel)
set_option maxRecDepth 20000 in
theorem gL_law_X12_drawn : GoodIn wsL_law (wsV RL 110 RX12 yX12_drawn wsX12_drawn) := goodIn_app (goodIn_of _ (by decide +kernel)) ggL_law_X12_drawn
set_option maxRecDepth 20000 in
theorem ggL_law_X11_image : GoodIn wsL_law wsX11_image := goodIn_r _ [824, 124, 19, 406, 21, 128, 129, 2, 130, 407, 408, 409, 18, 410, 301, 340, 341, 342, 343, 299, 300, 302, 55, 57, 58, 59, 344, 296, 297, 298, 1038, 1039, 1040, 1041, 1042, 1043, 1044, 1045, 1046, 1047, 1048, 1073, 1074, 1075, 1076, 1077, 1078, 1079, 1080] (by decide +kernel) (by decide +kernel)
set_option maxRecDepth 20000 in
theorem gL_law_X11_image : GoodIn wsL_law (wsV RL 111 RX11 yX11_image wsX11_image) := goodIn_app (goodIn_of _ (by decide +kernel)) ggL_law_X11_image
set_option maxRecDepth 20000 in
theorem ggL_law_X12_image : GoodIn wsL_law wsX12_image := goodIn_r _ [828, 157, 494, 109, 113, 115, 161, 162, 5, 163, 495, 496, 497, 498, 391, 392, 393, 1049, 1050, 1051, 1052, 1053, 1054, 1055, 1056, 1057, 1058, 1059, 1060, 1061, 1062, 1063, 1064, 1065, 1066, 1067, 1068, 1069, 1070, 1071, 1072] (by decide +kernel) (by decide +kernel)
set_option maxRecDepth 20000 in
theorem gL_law_X12_image : GoodIn wsL_law (wsV RL 114 RX12 yX12_image wsX12_image) := goodIn_app (goodIn_of _ (by decide +kernel)) ggL_law_X12_image
set_option maxRecDepth 20000 in
theorem ggL_law_X11_restore : GoodIn wsL_law wsX11_restore := goodIn_r _ [832, 124, 21, 406, 19, 257, 128, 129, 2, 130, 407, 408, 409, 18, 410, 301, 340, 341, 342, 343, 299, 300, 302, 55, 57, 58, 59, 344, 296, 297, 298, 1038, 1039, 1040, 1041, 1042, 1043, 1044, 1045, 1046, 1047, 1048, 1073, 1074, 1075, 1076, 1077, 1078, 1079, 1080] (by decide +kernel) (by decide +kernel)
set_option maxRecDepth 20000 in
theorem gL_law_X11_restore : GoodIn wsL_law (wsV RL 115 RX11 yX11_restore wsX11_restore) := goodIn_app (goodIn_of _ (by decide +kernel)) ggL_law_X11_restore
set_option maxRecDepth 20000 in
theorem ggL_law_X12_restore : GoodIn wsL_law wsX12_restore := goodIn_r _ [836, 157, 115, 494, 113, 109, 353, 161, 162, 5, 163, 391, 392, 393, 1049, 1050, 1051, 1052, 1053, 1054, 1055, 1056, 1057, 1058, 1059, 1060, 1061, 1062, 1063, 1064, 1065, 1066, 1067, 1068, 1069, 1070, 1071, 1072] (by decide +kernel) (by decide +kernel)
set_option maxRecDepth 20000 in
theorem gL_law_X12_restore : GoodIn wsL_law (wsV RL 118 RX12 yX12_restore wsX12_restore) := goodIn_app (goodIn_of _ (by decide +kernel)) ggL_law_X12_restore
set_option maxRecDepth 20000 in
theorem ggL_law_X11_kind : GoodIn wsL_law wsX11_kind := goodIn_r _ [840, 124, 841, 842, 843, 2, 844, 19, 542, 459, 460, 18, 461, 301, 845, 846, 847, 848, 42, 849, 850, 851, 30, 852, 853, 854, 33, 855, 856, 857, 39, 858, 859, 860, 36, 861, 1038, 1039, 1040, 1041, 1042, 1043, 1044, 1045, 1046, 1047, 1048, 1073, 1074, 1075, 1076, 1077, 1078, 1079, 1080] (by decide +kernel) (by decide +kernel)
set_option maxRecDepth 20000 in
theorem gL_law_X11_kind : GoodIn wsL_law (wsV RL 119 RX11 yX11_kind wsX11_kind) := goodIn_app (goodIn_of _ (by decide +kernel)) ggL_law_X11_kind
set_option maxRecDepth 20000 in
theorem ggL_law_X12_kind : GoodIn wsL_law wsX12_kind := goodIn_r _ [865, 109, 157, 553, 554, 555, 5, 556, 161, 162, 163, 1049, 1050, 1051, 1052, 1053, 1054, 1055, 1056, 1057, 1058, 1059, 1060, 1061, 1062, 1063, 1064, 1065, 1066, 1067, 1068, 1069, 1070, 1071, 1072] (by decide +kernel) (by decide +kernel)
set_option maxRecDepth 20000 in
theorem gL_law_X12_kind : GoodIn wsL_law (wsV RL 122 RX12 yX12_kind wsX12_kind) := goodIn_app (goodIn_of _ (by decide +kernel)) ggL_law_X12_kind
set_option maxRecDepth 20000 in
theorem ggL_law_X11_as : GoodIn wsL_law wsX11_as := goodIn_r _ [869, 124, 841, 842, 843, 2, 844, 19, 542, 459, 460, 18, 461, 301, 128, 129, 130, 870, 871, 872, 873, 72, 874, 875, 876, 877, 878, 879, 880, 881, 882, 883, 131, 132, 133, 134, 135, 136, 149, 150, 151, 152, 1038, 1039, 1040, 1041, 1042, 1043, 1044, 1045, 1046, 1047, 1048, 1073, 1074, 1075, 1076, 1077, 1078, 1079, 1080] (by decide +kernel) (by decide +kernel)
set_option maxRecDepth 20000 in
theorem gL_law_X11_as : GoodIn wsL_law (wsV RL 123 RX11 yX11_as wsX11_as) := goodIn_app (goodIn_of _ (by decide +kernel)) ggL_law_X11_as
set_option maxRecDepth 20000 in
theorem ggL_law_X12_as : GoodIn wsL_law wsX12_as := goodIn_r _ [887, 157, 109, 553, 554, 555, 5, 556, 161, 162, 163, 888, 889, 890, 170, 171, 172, 173, 168, 164, 165, 166, 167, 169, 1049, 1050, 1051, 1052, 1053, 1054, 1055, 1056, 1057, 1058, 1059, 1060, 1061, 1062, 1063, 1064, 1065, 1066, 1067, 1068, 1069, 1070, 1071, 1072] (by decide +kernel) (by decide +kernel)
set_option maxRecDepth 20000 in
theorem gL_law_X12_as : GoodIn wsL_law (wsV RL 126 RX12 yX12_as wsX12_as) := goodIn_app (goodIn_of _ (by decide +kernel)) ggL_law_X12_as
set_option maxRecDepth 20000 in
theorem ggL_law_X11_ask : GoodIn wsL_law wsX11_ask := goodIn_r _ [894, 124, 25, 19, 841, 842, 843, 2, 844, 542, 459, 460, 18, 461, 301, 128, 129, 130, 895, 896, 897, 24, 898, 899, 900, 901, 902, 903, 904, 905, 906, 907, 42, 908, 909, 910, 911, 912, 63, 913, 914, 915, 916, 39, 917, 918, 919, 920, 921, 72, 922, 923, 924, 925, 30, 926, 927, 928, 929, 930, 931, 932, 933, 934, 935, 936, 937, 938, 939, 940, 941, 942, 33, 943, 944, 945, 946, 947, 948, 36, 949, 950, 951, 952, 953, 954, 955, 956, 957, 958, 959, 960, 961, 962, 963, 964, 965, 966, 967, 968, 969, 970, 971, 972, 973, 974, 1038, 1039, 1040, 1041, 1042, 1043, 1044, 1045, 1046, 1047, 1048, 1073, 1074, 1075, 1076, 1077, 1078, 1079, 1080, 1081, 1082, 1083, 1084, 1085] (by decide +kernel) (by decide +kernel)
set_option maxRecDepth 20000 in
theorem gL_law_X11_ask : GoodIn wsL_law (wsV RL 127 RX11 yX11_ask wsX11_ask) := goodIn_app (goodIn_of _ (by decide +kernel)) ggL_law_X11_ask
set_option maxRecDepth 20000 in
theorem ggL_law_X12_ask : GoodIn wsL_law wsX12_ask := goodIn_r _ [978, 157, 979, 553, 554, 555, 5, 556, 109, 161, 162, 163, 980, 981, 982, 983, 984, 985, 986, 987, 117, 988, 989, 990, 991, 992, 993, 994, 995, 996, 997, 998, 999, 1000, 1001, 1002, 1003, 1049, 1050, 1051, 1052, 1053, 1054, 1055, 1056, 1057, 1058, 1059, 1060, 1061, 1062, 1063, 1064, 1065, 1066, 1067, 1068, 1069, 1070, 1071, 1072] (by decide +kernel) (by decide +kernel)
set_option maxRecDepth 20000 in
theorem gL_law_X12_ask : GoodIn wsL_law (wsV RL 130 RX12 yX12_ask wsX12_ask) := goodIn_app (goodIn_of _ (by decide +kernel)) ggL_law_X12_ask
set_option maxRecDepth 20000 in
theorem ggL_law_X11_trace : GoodIn wsL_law wsX11_trace := goodIn_r _ [1007, 25, 1008, 1009, 1010, 24, 1011, 899, 63, 1012, 129, 2, 130, 1038, 1039, 1040, 1041, 1042, 1043, 1044, 1045, 1046, 1047, 1048, 1081, 1082, 1083, 1084, 1085] (by decide +kernel) (by decide +kernel)
set_option maxRecDepth 20000 in
theorem gL_law_X11_trace : GoodIn wsL_law (wsV RL 131 RX11 yX11_trace wsX11_trace) := goodIn_app (goodIn_of _ (by decide +kernel)) ggL_law_X11_trace
set_option maxRecDepth 20000 in
theorem ggL_law_X12_trace : GoodIn wsL_law wsX12_trace := goodIn_r _ [1016, 979, 117, 518, 161, 162, 5, 163, 1049, 1050, 1051, 1052, 1053, 1054, 1055, 1056, 1057, 1058, 1059, 1060, 1061, 1062, 1063, 1064, 1065, 1066, 1067, 1068, 1069, 1070, 1071, 1072] (by decide +kernel) (by decide +kernel)
set_option maxRecDepth 20000 in
theorem gL_law_X12_trace : GoodIn wsL_law (wsV RL 134 RX12 yX12_trace wsX12_trace) := goodIn_app (goodIn_of _ (by decide +kernel)) ggL_law_X12_trace
set_option maxRecDepth 20000 in
theorem ggL_law_X11_count : GoodIn wsL_law wsX11_count := goodIn_r _ [1020, 19, 257, 46, 124, 1021, 1022, 1023, 2, 1024, 13, 178, 179, 180, 27, 181, 68, 1025, 808, 809, 18, 810, 301, 58, 1038, 1039, 1040, 1041, 1042, 1043, 1044, 1045, 1046, 1047, 1048, 1073, 1074, 1075, 1076, 1077, 1078, 1079, 1080, 1089, 1090, 1091, 1092, 1093, 1094, 1095, 1096, 1097, 1098, 1086, 1087, 1088] (by decide +kernel) (by decide +kernel)
set_option maxRecDepth 20000 in
theorem gL_law_X11_count : GoodIn wsL_law (wsV RL 135 RX11 yX11_count wsX11_count) := goodIn_app (goodIn_of _ (by decide +kernel)) ggL_law_X11_count
set_option maxRecDepth 20000 in
theorem ggL_law_X12_count : GoodIn wsL_law wsX12_count := goodIn_r _ [1029, 105, 109, 353, 249, 157, 818, 819, 5, 820, 1049, 1050, 1051, 1052, 1053, 1054, 1055, 1056, 1057, 1058, 1059, 1060, 1061, 1062, 1063, 1064, 1065, 1066, 1067, 1068, 1069, 1070, 1071, 1072] (by decide +kernel) (by decide +kernel)
set_option maxRecDepth 20000 in
theorem gL_law_X12_count : GoodIn wsL_law (wsV RL 138 RX12 yX12_count wsX12_count) := goodIn_app (goodIn_of _ (by decide +kernel)) ggL_law_X12_count
set_option maxRecDepth 20000 in
theorem ggL_law_X11_status : GoodIn wsL_law wsX11_status := goodIn_r _ [1033, 135, 1038, 1039, 1040, 1041, 1042, 1043, 1044, 1045, 1046, 1047, 1048] (by decide +kernel) (by decide +kernel)
set_option maxRecDepth 20000 in
theorem gL_law_X11_status : GoodIn wsL_law (wsV RL 139 RX11 yX11_status wsX11_status) := goodIn_app (goodIn_of _ (by decide +kernel)) ggL_law_X11_status
set_option maxRecDepth 20000 in
theorem ggL_law_X12_status : GoodIn wsL_law wsX12_status := goodIn_r _ [1037, 168, 1049, 1050, 1051, 1052, 1053, 1054, 1055, 1056, 1057, 1058, 1059, 1060, 1061, 1062, 1063, 1064, 1065, 1066, 1067, 1068, 1069, 1070, 1071, 1072] (by decide +kernel) (by decide +kernel)
set_option maxRecDepth 20000 in
theorem gL_law_X12_status : GoodIn wsL_law (wsV RL 142 RX12 yX12_status wsX12_status) := goodIn_app (goodIn_of _ (by decide +kernel)) ggL_law_X12_status
