theorem goodIn_cut {big ws : List Cond} (n : Nat) (h1 : GoodIn big (ws.take n)) (h2 : GoodIn big (ws.drop n)) : GoodIn big ws := fun w h => goodIn_app h1 h2 w (by rw [List.take_append_drop]; exact h)
set_option maxRecDepth 20000 in
theorem ggL_law_X10_init_p0 : GoodIn wsL_law (wsX10_init.take 40) := goodIn_r _ [9, 10, 11, 12, 13, 14, 15, 16, 17, 18, 19, 20, 21, 22, 23, 24, 25, 26, 27, 28, 29, 30, 31, 32, 33, 34, 35, 36, 37, 38, 39, 40, 41, 42, 43, 44, 45, 46, 47, 48] (by decide +kernel) (by decide +kernel)
set_option maxRecDepth 20000 in
theorem ggL_law_X10_init_p1 : GoodIn wsL_law ((wsX10_init.drop 40).take 40) := goodIn_r _ [49, 50, 51, 52, 53, 54, 55, 56, 57, 58, 59, 60, 61, 62, 63, 64, 65, 66, 67, 68, 69, 70, 71, 72, 73, 74, 75, 76, 77, 78, 79, 80, 81, 82, 83, 84, 85, 86, 87, 88] (by decide +kernel) (by decide +kernel)
set_option maxRecDepth 20000 in
theorem ggL_law_X10_init_p2 : GoodIn wsL_law (((wsX10_init.drop 40).drop 40).take 40) := goodIn_r _ [89, 90, 91, 92, 93, 94, 95, 96, 97, 98, 99, 100, 101, 102, 103, 104, 105, 106, 107, 108, 109, 110, 111, 112, 113, 114, 115, 116, 117, 118, 119, 120, 121, 122, 123, 1081, 1082, 1083, 1084, 1085] (by decide +kernel) (by decide +kernel)
set_option maxRecDepth 20000 in
theorem ggL_law_X10_init_p3 : GoodIn wsL_law ((((wsX10_init.drop 40).drop 40).drop 40).take 40) := goodIn_r _ [1086, 1087, 1036, 1037, 1038, 1039, 1040, 1041, 1042, 1088, 1089, 1090, 1091, 1092, 1093, 1094, 1095, 1096, 1097, 1098, 1099, 1100, 1101, 1102, 1103, 1104, 1105, 1106, 1107, 1108, 1109, 1110, 1111, 1112, 1113, 1114, 1115, 1116, 1117, 1118] (by decide +kernel) (by decide +kernel)
set_option maxRecDepth 20000 in
theorem ggL_law_X10_init_p4 : GoodIn wsL_law ((((wsX10_init.drop 40).drop 40).drop 40).drop 40) := goodIn_r _ [1119, 1120, 1121, 1122, 1123, 1124, 1125, 1126, 1127, 1128, 1129, 1130] (by decide +kernel) (by decide +kernel)
theorem ggL_law_X10_init : GoodIn wsL_law wsX10_init := goodIn_cut 40 ggL_law_X10_init_p0 (goodIn_cut 40 ggL_law_X10_init_p1 (goodIn_cut 40 ggL_law_X10_init_p2 (goodIn_cut 40 ggL_law_X10_init_p3 ggL_law_X10_init_p4)))
set_option maxRecDepth 20000 in
theorem gL_law_X10_init : GoodIn wsL_law (wsX10_init) := ggL_law_X10_init
set_option maxRecDepth 20000 in
theorem ggL_law_X11_init_p0 : GoodIn wsL_law (wsX11_init.take 40) := goodIn_r _ [126, 127, 11, 12, 38, 128, 129, 130, 131, 132, 133, 134, 135, 136, 137, 138, 139, 140, 141, 142, 1043, 1044, 1045, 1046, 1047, 1048, 1049, 1050, 1051, 1052, 1053, 1054, 1055, 1056, 1057, 1058, 1059, 1060, 1061, 1062] (by decide +kernel) (by decide +kernel)
set_option maxRecDepth 20000 in
theorem ggL_law_X11_init_p1 : GoodIn wsL_law (wsX11_init.drop 40) := goodIn_r _ [1063, 1064, 1065, 1066, 1067, 1068, 1069, 1070, 1071, 1072, 1073, 1074, 1075, 1076, 1077, 1078, 1079, 1080] (by decide +kernel) (by decide +kernel)
theorem ggL_law_X11_init : GoodIn wsL_law wsX11_init := goodIn_cut 40 ggL_law_X11_init_p0 ggL_law_X11_init_p1
set_option maxRecDepth 20000 in
theorem gL_law_X11_init : GoodIn wsL_law (wsX11_init) := ggL_law_X11_init
set_option maxRecDepth 20000 in
theorem ggL_law_X10_feed : GoodIn wsL_law wsX10_feed := goodIn_r _ [146, 16, 147, 148, 149, 150, 15, 151, 40, 39, 1036, 1037, 1038, 1039, 1040, 1041, 1042, 1081, 1082, 1083, 1084, 1085, 1086, 1087] (by decide +kernel) (by decide +kernel)
set_option maxRecDepth 20000 in
theorem gL_law_X10_feed : GoodIn wsL_law (wsV RL 15 RX10 yX10_feed wsX10_feed) := goodIn_app (goodIn_of _ (by decide +kernel)) ggL_law_X10_feed
set_option maxRecDepth 20000 in
theorem ggL_law_X11_feed : GoodIn wsL_law wsX11_feed := goodIn_r _ [155, 128, 156, 157, 158, 5, 159, 1043, 1044, 1045, 1046, 1047, 1048, 1049, 1050, 1051, 1052, 1053, 1054, 1055, 1056, 1057, 1058, 1059, 1060, 1061, 1062, 1063, 1064, 1065, 1066, 1067, 1068, 1069, 1070, 1071, 1072, 1073, 1074, 1075, 1076, 1077, 1078, 1079, 1080] (by decide +kernel) (by decide +kernel)
set_option maxRecDepth 20000 in
theorem gL_law_X11_feed : GoodIn wsL_law (wsV RL 19 RX11 yX11_feed wsX11_feed) := goodIn_app (goodIn_of _ (by decide +kernel)) ggL_law_X11_feed
set_option maxRecDepth 20000 in
theorem ggL_law_X10_river_p0 : GoodIn wsL_law (wsX10_river.take 40) := goodIn_r _ [163, 21, 16, 147, 164, 165, 166, 167, 168, 169, 20, 170, 78, 171, 172, 173, 174, 175, 80, 176, 177, 83, 178, 179, 180, 181, 182, 183, 184, 185, 84, 85, 86, 186, 2, 187, 188, 189, 190, 191] (by decide +kernel) (by decide +kernel)
set_option maxRecDepth 20000 in
theorem ggL_law_X10_river_p1 : GoodIn wsL_law ((wsX10_river.drop 40).take 40) := goodIn_r _ [192, 193, 194, 195, 43, 196, 53, 54, 55, 56, 63, 197, 198, 199, 200, 201, 202, 203, 204, 205, 206, 207, 208, 209, 210, 211, 212, 213, 214, 215, 216, 217, 218, 219, 220, 221, 222, 223, 224, 225] (by decide +kernel) (by decide +kernel)
set_option maxRecDepth 20000 in
theorem ggL_law_X10_river_p2 : GoodIn wsL_law (((wsX10_river.drop 40).drop 40).take 40) := goodIn_r _ [226, 227, 228, 229, 230, 231, 232, 233, 234, 235, 236, 237, 238, 239, 240, 241, 242, 243, 244, 245, 246, 247, 248, 249, 250, 251, 252, 253, 254, 255, 256, 257, 258, 259, 260, 261, 262, 263, 264, 265] (by decide +kernel) (by decide +kernel)
set_option maxRecDepth 20000 in
theorem ggL_law_X10_river_p3 : GoodIn wsL_law ((((wsX10_river.drop 40).drop 40).drop 40).take 40) := goodIn_r _ [266, 267, 268, 269, 270, 271, 272, 273, 274, 275, 276, 277, 278, 279, 280, 281, 282, 283, 284, 285, 286, 287, 288, 289, 290, 291, 292, 293, 294, 295, 57, 58, 59, 296, 297, 298, 299, 300, 301, 302] (by decide +kernel) (by decide +kernel)
set_option maxRecDepth 20000 in
theorem ggL_law_X10_river_p4 : GoodIn wsL_law (((((wsX10_river.drop 40).drop 40).drop 40).drop 40).take 40) := goodIn_r _ [303, 304, 305, 306, 307, 308, 309, 310, 311, 312, 313, 314, 315, 316, 317, 318, 319, 320, 321, 322, 323, 324, 325, 326, 327, 328, 329, 330, 62, 331, 68, 69, 70, 72, 1036, 1037, 1038, 1039, 1040, 1041] (by decide +kernel) (by decide +kernel)
set_option maxRecDepth 20000 in
theorem ggL_law_X10_river_p5 : GoodIn wsL_law (((((wsX10_river.drop 40).drop 40).drop 40).drop 40).drop 40) := goodIn_r _ [1042, 1081, 1082, 1083, 1084, 1085, 1086, 1087, 1088, 1089, 1090, 1091, 1092, 1112, 1113, 1114, 1115, 1116, 1117, 1118, 1119, 1093, 1094, 1095, 1096, 1097, 1098, 1099, 1100, 1101, 1102, 1120, 1121, 1122, 1123, 1124, 1125, 1126] (by decide +kernel) (by decide +kernel)
theorem ggL_law_X10_river : GoodIn wsL_law wsX10_river := goodIn_cut 40 ggL_law_X10_river_p0 (goodIn_cut 40 ggL_law_X10_river_p1 (goodIn_cut 40 ggL_law_X10_river_p2 (goodIn_cut 40 ggL_law_X10_river_p3 (goodIn_cut 40 ggL_law_X10_river_p4 ggL_law_X10_river_p5))))
set_option maxRecDepth 20000 in
theorem gL_law_X10_river : GoodIn wsL_law (wsV RL 20 RX10 yX10_river wsX10_river) := goodIn_app (goodIn_of _ (by decide +kernel)) ggL_law_X10_river
set_option maxRecDepth 20000 in
theorem ggL_law_X11_river_p0 : GoodIn wsL_law (wsX11_river.take 40) := goodIn_r _ [335, 336, 337, 338, 339, 340, 341, 342, 128, 130, 131, 132, 343, 344, 345, 5, 346, 347, 348, 349, 350, 351, 352, 353, 354, 355, 356, 357, 358, 359, 360, 361, 362, 363, 364, 218, 219, 220, 221, 222] (by decide +kernel) (by decide +kernel)
set_option maxRecDepth 20000 in
theorem ggL_law_X11_river_p1 : GoodIn wsL_law ((wsX11_river.drop 40).take 40) := goodIn_r _ [223, 224, 225, 226, 227, 228, 365, 230, 231, 232, 233, 234, 235, 236, 237, 238, 239, 240, 241, 242, 243, 244, 245, 246, 247, 248, 249, 250, 251, 252, 253, 254, 255, 256, 257, 258, 259, 260, 261, 262] (by decide +kernel) (by decide +kernel)
set_option maxRecDepth 20000 in
theorem ggL_law_X11_river_p2 : GoodIn wsL_law (((wsX11_river.drop 40).drop 40).take 40) := goodIn_r _ [263, 264, 265, 366, 367, 368, 369, 370, 371, 372, 373, 157, 158, 159, 1043, 1044, 1045, 1046, 1047, 1048, 1049, 1050, 1051, 1052, 1053, 1054, 1055, 1056, 1057, 1058, 1059, 1060, 1061, 1062, 1063, 1064, 1065, 1066, 1067, 1068] (by decide +kernel) (by decide +kernel)
set_option maxRecDepth 20000 in
theorem ggL_law_X11_river_p3 : GoodIn wsL_law (((wsX11_river.drop 40).drop 40).drop 40) := goodIn_r _ [1069, 1070, 1071, 1072, 1073, 1074, 1075, 1076, 1077, 1078, 1079, 1080] (by decide +kernel) (by decide +kernel)
theorem ggL_law_X11_river : GoodIn wsL_law wsX11_river := goodIn_cut 40 ggL_law_X11_river_p0 (goodIn_cut 40 ggL_law_X11_river_p1 (goodIn_cut 40 ggL_law_X11_river_p2 ggL_law_X11_river_p3))
set_option maxRecDepth 20000 in
theorem gL_law_X11_river : GoodIn wsL_law (wsV RL 24 RX11 yX11_river wsX11_river) := goodIn_app (goodIn_of _ (by decide +kernel)) ggL_law_X11_river
set_option maxRecDepth 20000 in
theorem ggL_law_X10_card_p0 : GoodIn wsL_law (wsX10_card.take 40) := goodIn_r _ [377, 16, 378, 25, 147, 379, 380, 381, 382, 383, 384, 24, 385, 93, 94, 89, 90, 91, 386, 387, 388, 175, 80, 176, 177, 83, 178, 179, 180, 181, 182, 183, 184, 185, 84, 85, 86, 186, 2, 187] (by decide +kernel) (by decide +kernel)
set_option maxRecDepth 20000 in
theorem ggL_law_X10_card_p1 : GoodIn wsL_law ((wsX10_card.drop 40).take 40) := goodIn_r _ [188, 189, 190, 191, 192, 389, 390, 391, 285, 286, 271, 272, 273, 206, 207, 274, 276, 277, 278, 279, 280, 281, 392, 393, 394, 215, 216, 217, 218, 219, 220, 221, 222, 223, 224, 225, 226, 227, 228, 229] (by decide +kernel) (by decide +kernel)
set_option maxRecDepth 20000 in
theorem ggL_law_X10_card_p2 : GoodIn wsL_law (((wsX10_card.drop 40).drop 40).take 40) := goodIn_r _ [230, 231, 232, 233, 234, 235, 236, 237, 238, 239, 240, 241, 242, 243, 244, 245, 246, 247, 248, 249, 250, 251, 252, 253, 254, 255, 256, 257, 258, 259, 260, 261, 262, 263, 264, 265, 266, 267, 268, 269] (by decide +kernel) (by decide +kernel)
set_option maxRecDepth 20000 in
theorem ggL_law_X10_card_p3 : GoodIn wsL_law ((((wsX10_card.drop 40).drop 40).drop 40).take 40) := goodIn_r _ [270, 275, 395, 396, 397, 398, 399, 400, 401, 402, 403, 404, 405, 406, 407, 408, 92, 409, 410, 411, 412, 413, 414, 415, 416, 417, 418, 419, 420, 421, 422, 423, 424, 317, 318, 425, 426, 427, 322, 323] (by decide +kernel) (by decide +kernel)
set_option maxRecDepth 20000 in
theorem ggL_law_X10_card_p4 : GoodIn wsL_law (((((wsX10_card.drop 40).drop 40).drop 40).drop 40).take 40) := goodIn_r _ [428, 429, 430, 431, 11, 12, 432, 433, 434, 435, 436, 437, 438, 439, 440, 441, 442, 443, 444, 445, 446, 447, 448, 449, 450, 451, 452, 453, 454, 15, 455, 47, 46, 1036, 1037, 1038, 1039, 1040, 1041, 1042] (by decide +kernel) (by decide +kernel)
set_option maxRecDepth 20000 in
theorem ggL_law_X10_card_p5 : GoodIn wsL_law (((((wsX10_card.drop 40).drop 40).drop 40).drop 40).drop 40) := goodIn_r _ [1081, 1082, 1083, 1084, 1085, 1086, 1087, 1131, 1132, 1133, 1134, 1135, 1136, 1137, 1138, 1139, 1093, 1094, 1095, 1096, 1097, 1098, 1099, 1100, 1101, 1102, 1088, 1089, 1090, 1091, 1092] (by decide +kernel) (by decide +kernel)
theorem ggL_law_X10_card : GoodIn wsL_law wsX10_card := goodIn_cut 40 ggL_law_X10_card_p0 (goodIn_cut 40 ggL_law_X10_card_p1 (goodIn_cut 40 ggL_law_X10_card_p2 (goodIn_cut 40 ggL_law_X10_card_p3 (goodIn_cut 40 ggL_law_X10_card_p4 ggL_law_X10_card_p5))))
set_option maxRecDepth 20000 in
theorem gL_law_X10_card : GoodIn wsL_law (wsV RL 25 RX10 yX10_card wsX10_card) := goodIn_app (goodIn_of _ (by decide +kernel)) ggL_law_X10_card
set_option maxRecDepth 20000 in
theorem ggL_law_X11_card_p0 : GoodIn wsL_law (wsX11_card.take 40) := goodIn_r _ [459, 128, 460, 340, 341, 342, 157, 158, 5, 159, 343, 344, 345, 346, 347, 461, 462, 463, 464, 370, 371, 372, 373, 352, 353, 354, 355, 360, 361, 362, 363, 364, 218, 219, 220, 221, 222, 223, 224, 225] (by decide +kernel) (by decide +kernel)
set_option maxRecDepth 20000 in
theorem ggL_law_X11_card_p1 : GoodIn wsL_law ((wsX11_card.drop 40).take 40) := goodIn_r _ [226, 227, 228, 365, 230, 231, 232, 233, 234, 235, 236, 237, 238, 239, 240, 241, 242, 243, 244, 245, 246, 247, 248, 249, 250, 251, 252, 253, 254, 255, 256, 257, 258, 259, 260, 261, 262, 263, 264, 265] (by decide +kernel) (by decide +kernel)
set_option maxRecDepth 20000 in
theorem ggL_law_X11_card_p2 : GoodIn wsL_law (((wsX11_card.drop 40).drop 40).take 40) := goodIn_r _ [366, 367, 368, 369, 465, 466, 467, 468, 469, 470, 471, 472, 473, 474, 475, 476, 477, 478, 479, 480, 481, 482, 483, 484, 1043, 1044, 1045, 1046, 1047, 1048, 1049, 1050, 1051, 1052, 1053, 1054, 1055, 1056, 1057, 1058] (by decide +kernel) (by decide +kernel)
set_option maxRecDepth 20000 in
theorem ggL_law_X11_card_p3 : GoodIn wsL_law (((wsX11_card.drop 40).drop 40).drop 40) := goodIn_r _ [1059, 1060, 1061, 1062, 1063, 1064, 1065, 1066, 1067, 1068, 1069, 1070, 1071, 1072, 1073, 1074, 1075, 1076, 1077, 1078, 1079, 1080] (by decide +kernel) (by decide +kernel)
theorem ggL_law_X11_card : GoodIn wsL_law wsX11_card := goodIn_cut 40 ggL_law_X11_card_p0 (goodIn_cut 40 ggL_law_X11_card_p1 (goodIn_cut 40 ggL_law_X11_card_p2 ggL_law_X11_card_p3))
set_option maxRecDepth 20000 in
theorem gL_law_X11_card : GoodIn wsL_law (wsV RL 29 RX11 yX11_card wsX11_card) := goodIn_app (goodIn_of _ (by decide +kernel)) ggL_law_X11_card
set_option maxRecDepth 20000 in
theorem ggL_law_X10_told : GoodIn wsL_law wsX10_told := goodIn_r _ [488, 16, 489, 490, 491, 492, 493, 494, 15, 495, 47, 46, 1036, 1037, 1038, 1039, 1040, 1041, 1042, 1131, 1132, 1133, 1134, 1135, 1136, 1137, 1138, 1139, 1081, 1082, 1083, 1084, 1085, 1086, 1087] (by decide +kernel) (by decide +kernel)
set_option maxRecDepth 20000 in
theorem gL_law_X10_told : GoodIn wsL_law (wsV RL 30 RX10 yX10_told wsX10_told) := goodIn_app (goodIn_of _ (by decide +kernel)) ggL_law_X10_told
set_option maxRecDepth 20000 in
theorem ggL_law_X11_told : GoodIn wsL_law wsX11_told := goodIn_r _ [499, 128, 500, 501, 502, 5, 503, 157, 158, 159, 1043, 1044, 1045, 1046, 1047, 1048, 1049, 1050, 1051, 1052, 1053, 1054, 1055, 1056, 1057, 1058, 1059, 1060, 1061, 1062, 1063, 1064, 1065, 1066, 1067, 1068, 1069, 1070, 1071, 1072, 1073, 1074, 1075, 1076, 1077, 1078, 1079, 1080] (by decide +kernel) (by decide +kernel)
set_option maxRecDepth 20000 in
theorem gL_law_X11_told : GoodIn wsL_law (wsV RL 33 RX11 yX11_told wsX11_told) := goodIn_app (goodIn_of _ (by decide +kernel)) ggL_law_X11_told
set_option maxRecDepth 20000 in
theorem ggL_law_X10_hang : GoodIn wsL_law wsX10_hang := goodIn_r _ [507, 16, 164, 508, 509, 510, 511, 2, 512, 166, 492, 493, 494, 15, 495, 47, 46, 1036, 1037, 1038, 1039, 1040, 1041, 1042, 1081, 1082, 1083, 1084, 1085, 1086, 1087, 1112, 1113, 1114, 1115, 1116, 1117, 1118, 1119] (by decide +kernel) (by decide +kernel)
set_option maxRecDepth 20000 in
theorem gL_law_X10_hang : GoodIn wsL_law (wsV RL 34 RX10 yX10_hang wsX10_hang) := goodIn_app (goodIn_of _ (by decide +kernel)) ggL_law_X10_hang
set_option maxRecDepth 20000 in
theorem ggL_law_X11_hang : GoodIn wsL_law wsX11_hang := goodIn_r _ [516, 128, 517, 518, 519, 5, 520, 157, 158, 159, 1043, 1044, 1045, 1046, 1047, 1048, 1049, 1050, 1051, 1052, 1053, 1054, 1055, 1056, 1057, 1058, 1059, 1060, 1061, 1062, 1063, 1064, 1065, 1066, 1067, 1068, 1069, 1070, 1071, 1072, 1073, 1074, 1075, 1076, 1077, 1078, 1079, 1080] (by decide +kernel) (by decide +kernel)
set_option maxRecDepth 20000 in
theorem gL_law_X11_hang : GoodIn wsL_law (wsV RL 37 RX11 yX11_hang wsX11_hang) := goodIn_app (goodIn_of _ (by decide +kernel)) ggL_law_X11_hang
set_option maxRecDepth 20000 in
theorem ggL_law_X10_of : GoodIn wsL_law wsX10_of := goodIn_r _ [524, 16, 164, 525, 526, 527, 528, 529, 530, 509, 510, 511, 2, 512, 166, 1036, 1037, 1038, 1039, 1040, 1041, 1042, 1081, 1082, 1083, 1084, 1085, 1086, 1087, 1112, 1113, 1114, 1115, 1116, 1117, 1118, 1119, 1120, 1121, 1122, 1123, 1124, 1125, 1126] (by decide +kernel) (by decide +kernel)
set_option maxRecDepth 20000 in
theorem gL_law_X10_of : GoodIn wsL_law (wsV RL 38 RX10 yX10_of wsX10_of) := goodIn_app (goodIn_of _ (by decide +kernel)) ggL_law_X10_of
set_option maxRecDepth 20000 in
theorem ggL_law_X11_of : GoodIn wsL_law wsX11_of := goodIn_r _ [534, 128, 517, 518, 519, 5, 520, 157, 158, 159, 1043, 1044, 1045, 1046, 1047, 1048, 1049, 1050, 1051, 1052, 1053, 1054, 1055, 1056, 1057, 1058, 1059, 1060, 1061, 1062, 1063, 1064, 1065, 1066, 1067, 1068, 1069, 1070, 1071, 1072, 1073, 1074, 1075, 1076, 1077, 1078, 1079, 1080] (by decide +kernel) (by decide +kernel)
set_option maxRecDepth 20000 in
theorem gL_law_X11_of : GoodIn wsL_law (wsV RL 41 RX11 yX11_of wsX11_of) := goodIn_app (goodIn_of _ (by decide +kernel)) ggL_law_X11_of
