set_option maxRecDepth 20000 in
theorem ggL_law_X10_same_p0 : GoodIn wsL_law (wsX10_same.take 40) := goodIn_r _ [899, 29, 16, 900, 378, 543, 544, 545, 2, 546, 164, 166, 582, 583, 584, 28, 585, 99, 586, 101, 587, 588, 102, 103, 110, 589, 590, 325, 326, 43, 327, 53, 54, 55, 56, 57, 58, 59, 63, 186] (by decide +kernel) (by decide +kernel)
set_option maxRecDepth 20000 in
theorem ggL_law_X10_same_p1 : GoodIn wsL_law ((wsX10_same.drop 40).take 40) := goodIn_r _ [187, 188, 180, 181, 182, 189, 190, 191, 192, 328, 329, 330, 62, 331, 68, 69, 70, 72, 591, 493, 494, 15, 495, 47, 46, 592, 740, 741, 742, 743, 744, 104, 745, 746, 747, 748, 749, 597, 750, 599] (by decide +kernel) (by decide +kernel)
set_option maxRecDepth 20000 in
theorem ggL_law_X10_same_p2 : GoodIn wsL_law (((wsX10_same.drop 40).drop 40).take 40) := goodIn_r _ [600, 601, 602, 108, 603, 604, 605, 606, 607, 598, 608, 609, 610, 611, 612, 613, 614, 615, 381, 616, 433, 617, 618, 184, 185, 619, 620, 434, 621, 622, 623, 624, 436, 445, 437, 625, 626, 627, 628, 447] (by decide +kernel) (by decide +kernel)
set_option maxRecDepth 20000 in
theorem ggL_law_X10_same_p3 : GoodIn wsL_law ((((wsX10_same.drop 40).drop 40).drop 40).take 40) := goodIn_r _ [449, 451, 629, 630, 631, 107, 632, 114, 115, 116, 117, 633, 634, 635, 636, 637, 638, 639, 640, 641, 642, 643, 644, 751, 752, 753, 754, 755, 756, 757, 758, 759, 760, 761, 684, 685, 686, 687, 492, 901] (by decide +kernel) (by decide +kernel)
set_option maxRecDepth 20000 in
theorem ggL_law_X10_same_p4 : GoodIn wsL_law (((((wsX10_same.drop 40).drop 40).drop 40).drop 40).take 40) := goodIn_r _ [902, 903, 904, 1036, 1037, 1038, 1039, 1040, 1041, 1042, 1103, 1104, 1105, 1106, 1107, 1108, 1109, 1081, 1082, 1083, 1084, 1085, 1086, 1087, 1112, 1113, 1114, 1115, 1116, 1117, 1118, 1119, 1120, 1121, 1122, 1123, 1124, 1125, 1126, 1127] (by decide +kernel) (by decide +kernel)
set_option maxRecDepth 20000 in
theorem ggL_law_X10_same_p5 : GoodIn wsL_law (((((wsX10_same.drop 40).drop 40).drop 40).drop 40).drop 40) := goodIn_r _ [1128, 1129, 1130, 1131, 1132, 1133, 1134, 1135, 1136, 1137, 1138, 1139] (by decide +kernel) (by decide +kernel)
theorem ggL_law_X10_same : GoodIn wsL_law wsX10_same := goodIn_cut 40 ggL_law_X10_same_p0 (goodIn_cut 40 ggL_law_X10_same_p1 (goodIn_cut 40 ggL_law_X10_same_p2 (goodIn_cut 40 ggL_law_X10_same_p3 (goodIn_cut 40 ggL_law_X10_same_p4 ggL_law_X10_same_p5))))
set_option maxRecDepth 20000 in
theorem gL_law_X10_same : GoodIn wsL_law (wsV RL 100 RX10 yX10_same wsX10_same) := goodIn_app (goodIn_of _ (by decide +kernel)) ggL_law_X10_same
set_option maxRecDepth 20000 in
theorem ggL_law_X11_same_p0 : GoodIn wsL_law (wsX11_same.take 40) := goodIn_r _ [908, 564, 141, 128, 157, 158, 5, 159, 551, 552, 553, 554, 766, 767, 768, 769, 770, 771, 772, 773, 774, 775, 776, 777, 778, 779, 693, 555, 556, 557, 558, 133, 134, 135, 559, 780, 781, 782, 783, 784] (by decide +kernel) (by decide +kernel)
set_option maxRecDepth 20000 in
theorem ggL_law_X11_same_p1 : GoodIn wsL_law ((wsX11_same.drop 40).take 40) := goodIn_r _ [785, 786, 694, 695, 696, 697, 698, 136, 649, 650, 651, 652, 653, 654, 655, 656, 657, 658, 659, 660, 661, 137, 662, 663, 664, 665, 666, 139, 560, 561, 562, 563, 565, 566, 567, 568, 569, 667, 668, 669] (by decide +kernel) (by decide +kernel)
set_option maxRecDepth 20000 in
theorem ggL_law_X11_same_p2 : GoodIn wsL_law ((wsX11_same.drop 40).drop 40) := goodIn_r _ [670, 671, 672, 673, 674, 1043, 1044, 1045, 1046, 1047, 1048, 1049, 1050, 1051, 1052, 1053, 1054, 1055, 1056, 1057, 1058, 1059, 1060, 1061, 1062, 1063, 1064, 1065, 1066, 1067, 1068, 1069, 1070, 1071, 1072, 1073, 1074, 1075, 1076, 1077, 1078, 1079, 1080] (by decide +kernel) (by decide +kernel)
theorem ggL_law_X11_same : GoodIn wsL_law wsX11_same := goodIn_cut 40 ggL_law_X11_same_p0 (goodIn_cut 40 ggL_law_X11_same_p1 ggL_law_X11_same_p2)
set_option maxRecDepth 20000 in
theorem gL_law_X11_same : GoodIn wsL_law (wsV RL 103 RX11 yX11_same wsX11_same) := goodIn_app (goodIn_of _ (by decide +kernel)) ggL_law_X11_same
set_option maxRecDepth 20000 in
theorem ggL_law_X10_act_p0 : GoodIn wsL_law (wsX10_act.take 40) := goodIn_r _ [912, 16, 33, 492, 493, 494, 15, 495, 47, 46, 913, 914, 915, 32, 916, 123, 917, 918, 919, 920, 921, 922, 923, 924, 925, 926, 927, 928, 929, 930, 931, 932, 933, 381, 934, 935, 936, 937, 938, 939] (by decide +kernel) (by decide +kernel)
set_option maxRecDepth 20000 in
theorem ggL_law_X10_act_p1 : GoodIn wsL_law (wsX10_act.drop 40) := goodIn_r _ [122, 1036, 1037, 1038, 1039, 1040, 1041, 1042, 1081, 1082, 1083, 1084, 1085, 1086, 1087, 1110, 1111, 1131, 1132, 1133, 1134, 1135, 1136, 1137, 1138, 1139] (by decide +kernel) (by decide +kernel)
theorem ggL_law_X10_act : GoodIn wsL_law wsX10_act := goodIn_cut 40 ggL_law_X10_act_p0 ggL_law_X10_act_p1
set_option maxRecDepth 20000 in
theorem gL_law_X10_act : GoodIn wsL_law (wsV RL 104 RX10 yX10_act wsX10_act) := goodIn_app (goodIn_of _ (by decide +kernel)) ggL_law_X10_act
set_option maxRecDepth 20000 in
theorem ggL_law_X11_act_p0 : GoodIn wsL_law (wsX11_act.take 40) := goodIn_r _ [943, 944, 128, 945, 946, 947, 500, 501, 502, 5, 503, 157, 158, 159, 948, 949, 950, 951, 952, 953, 954, 955, 142, 956, 957, 958, 959, 960, 961, 962, 963, 964, 965, 966, 967, 968, 969, 970, 971, 972] (by decide +kernel) (by decide +kernel)
set_option maxRecDepth 20000 in
theorem ggL_law_X11_act_p1 : GoodIn wsL_law (wsX11_act.drop 40) := goodIn_r _ [973, 974, 975, 976, 977, 978, 979, 980, 981, 982, 1043, 1044, 1045, 1046, 1047, 1048, 1049, 1050, 1051, 1052, 1053, 1054, 1055, 1056, 1057, 1058, 1059, 1060, 1061, 1062, 1063, 1064, 1065, 1066, 1067, 1068, 1069, 1070, 1071, 1072, 1073, 1074, 1075, 1076, 1077, 1078, 1079, 1080] (by decide +kernel) (by decide +kernel)
theorem ggL_law_X11_act : GoodIn wsL_law wsX11_act := goodIn_cut 40 ggL_law_X11_act_p0 ggL_law_X11_act_p1
set_option maxRecDepth 20000 in
theorem gL_law_X11_act : GoodIn wsL_law (wsV RL 108 RX11 yX11_act wsX11_act) := goodIn_app (goodIn_of _ (by decide +kernel)) ggL_law_X11_act
set_option maxRecDepth 20000 in
theorem ggL_law_X10_trace : GoodIn wsL_law wsX10_trace := goodIn_r _ [986, 33, 987, 988, 1036, 1037, 1038, 1039, 1040, 1041, 1042, 1110, 1111] (by decide +kernel) (by decide +kernel)
set_option maxRecDepth 20000 in
theorem gL_law_X10_trace : GoodIn wsL_law (wsV RL 109 RX10 yX10_trace wsX10_trace) := goodIn_app (goodIn_of _ (by decide +kernel)) ggL_law_X10_trace
set_option maxRecDepth 20000 in
theorem ggL_law_X11_trace : GoodIn wsL_law wsX11_trace := goodIn_r _ [992, 944, 142, 157, 158, 5, 159, 1043, 1044, 1045, 1046, 1047, 1048, 1049, 1050, 1051, 1052, 1053, 1054, 1055, 1056, 1057, 1058, 1059, 1060, 1061, 1062, 1063, 1064, 1065, 1066, 1067, 1068, 1069, 1070, 1071, 1072, 1073, 1074, 1075, 1076, 1077, 1078, 1079, 1080] (by decide +kernel) (by decide +kernel)
set_option maxRecDepth 20000 in
theorem gL_law_X11_trace : GoodIn wsL_law (wsV RL 112 RX11 yX11_trace wsX11_trace) := goodIn_app (goodIn_of _ (by decide +kernel)) ggL_law_X11_trace
set_option maxRecDepth 20000 in
theorem ggL_law_X10_as : GoodIn wsL_law wsX10_as := goodIn_r _ [996, 16, 490, 492, 493, 494, 15, 495, 47, 46, 997, 998, 999, 381, 1000, 433, 1001, 933, 934, 935, 1036, 1037, 1038, 1039, 1040, 1041, 1042, 1131, 1132, 1133, 1134, 1135, 1136, 1137, 1138, 1139, 1081, 1082, 1083, 1084, 1085, 1086, 1087] (by decide +kernel) (by decide +kernel)
set_option maxRecDepth 20000 in
theorem gL_law_X10_as : GoodIn wsL_law (wsV RL 113 RX10 yX10_as wsX10_as) := goodIn_app (goodIn_of _ (by decide +kernel)) ggL_law_X10_as
set_option maxRecDepth 20000 in
theorem ggL_law_X11_as_p0 : GoodIn wsL_law (wsX11_as.take 40) := goodIn_r _ [1005, 128, 500, 501, 502, 5, 503, 157, 158, 159, 964, 965, 966, 1043, 1044, 1045, 1046, 1047, 1048, 1049, 1050, 1051, 1052, 1053, 1054, 1055, 1056, 1057, 1058, 1059, 1060, 1061, 1062, 1063, 1064, 1065, 1066, 1067, 1068, 1069] (by decide +kernel) (by decide +kernel)
set_option maxRecDepth 20000 in
theorem ggL_law_X11_as_p1 : GoodIn wsL_law (wsX11_as.drop 40) := goodIn_r _ [1070, 1071, 1072, 1073, 1074, 1075, 1076, 1077, 1078, 1079, 1080] (by decide +kernel) (by decide +kernel)
theorem ggL_law_X11_as : GoodIn wsL_law wsX11_as := goodIn_cut 40 ggL_law_X11_as_p0 ggL_law_X11_as_p1
set_option maxRecDepth 20000 in
theorem gL_law_X11_as : GoodIn wsL_law (wsV RL 116 RX11 yX11_as wsX11_as) := goodIn_app (goodIn_of _ (by decide +kernel)) ggL_law_X11_as
set_option maxRecDepth 20000 in
theorem ggL_law_X10_image_p0 : GoodIn wsL_law (wsX10_image.take 40) := goodIn_r _ [1009, 17, 16, 34, 378, 1010, 1011, 1012, 15, 1013, 39, 40, 44, 46, 47, 48, 49, 186, 2, 187, 188, 180, 181, 182, 189, 190, 191, 192, 1014, 325, 326, 43, 327, 53, 54, 55, 56, 57, 58, 59] (by decide +kernel) (by decide +kernel)
set_option maxRecDepth 20000 in
theorem ggL_law_X10_image_p1 : GoodIn wsL_law (wsX10_image.drop 40) := goodIn_r _ [63, 328, 329, 330, 62, 331, 68, 69, 70, 72, 1036, 1037, 1038, 1039, 1040, 1041, 1042, 1081, 1082, 1083, 1084, 1085, 1086, 1087, 1112, 1113, 1114, 1115, 1116, 1117, 1118, 1119, 1120, 1121, 1122, 1123, 1124, 1125, 1126] (by decide +kernel) (by decide +kernel)
theorem ggL_law_X10_image : GoodIn wsL_law wsX10_image := goodIn_cut 40 ggL_law_X10_image_p0 ggL_law_X10_image_p1
set_option maxRecDepth 20000 in
theorem gL_law_X10_image : GoodIn wsL_law (wsV RL 117 RX10 yX10_image wsX10_image) := goodIn_app (goodIn_of _ (by decide +kernel)) ggL_law_X10_image
set_option maxRecDepth 20000 in
theorem ggL_law_X11_image : GoodIn wsL_law wsX11_image := goodIn_r _ [1018, 129, 128, 1019, 1043, 1044, 1045, 1046, 1047, 1048, 1049, 1050, 1051, 1052, 1053, 1054, 1055, 1056, 1057, 1058, 1059, 1060, 1061, 1062, 1063, 1064, 1065, 1066, 1067, 1068, 1069, 1070, 1071, 1072, 1073, 1074, 1075, 1076, 1077, 1078, 1079, 1080] (by decide +kernel) (by decide +kernel)
set_option maxRecDepth 20000 in
theorem gL_law_X11_image : GoodIn wsL_law (wsV RL 120 RX11 yX11_image wsX11_image) := goodIn_app (goodIn_of _ (by decide +kernel)) ggL_law_X11_image
set_option maxRecDepth 20000 in
theorem ggL_law_X10_undo_p0 : GoodIn wsL_law (wsX10_undo.take 40) := goodIn_r _ [1023, 34, 16, 17, 378, 1010, 1011, 1012, 15, 1013, 39, 40, 44, 46, 47, 48, 49, 186, 2, 187, 188, 180, 181, 182, 189, 190, 191, 192, 1014, 325, 326, 43, 327, 53, 54, 55, 56, 57, 58, 59] (by decide +kernel) (by decide +kernel)
set_option maxRecDepth 20000 in
theorem ggL_law_X10_undo_p1 : GoodIn wsL_law (wsX10_undo.drop 40) := goodIn_r _ [63, 328, 329, 330, 62, 331, 68, 69, 70, 72, 1036, 1037, 1038, 1039, 1040, 1041, 1042, 1081, 1082, 1083, 1084, 1085, 1086, 1087, 1112, 1113, 1114, 1115, 1116, 1117, 1118, 1119, 1120, 1121, 1122, 1123, 1124, 1125, 1126] (by decide +kernel) (by decide +kernel)
theorem ggL_law_X10_undo : GoodIn wsL_law wsX10_undo := goodIn_cut 40 ggL_law_X10_undo_p0 ggL_law_X10_undo_p1
set_option maxRecDepth 20000 in
theorem gL_law_X10_undo : GoodIn wsL_law (wsV RL 121 RX10 yX10_undo wsX10_undo) := goodIn_app (goodIn_of _ (by decide +kernel)) ggL_law_X10_undo
set_option maxRecDepth 20000 in
theorem ggL_law_X11_undo : GoodIn wsL_law wsX11_undo := goodIn_r _ [1027, 1019, 128, 129, 1043, 1044, 1045, 1046, 1047, 1048, 1049, 1050, 1051, 1052, 1053, 1054, 1055, 1056, 1057, 1058, 1059, 1060, 1061, 1062, 1063, 1064, 1065, 1066, 1067, 1068, 1069, 1070, 1071, 1072, 1073, 1074, 1075, 1076, 1077, 1078, 1079, 1080] (by decide +kernel) (by decide +kernel)
set_option maxRecDepth 20000 in
theorem gL_law_X11_undo : GoodIn wsL_law (wsV RL 124 RX11 yX11_undo wsX11_undo) := goodIn_app (goodIn_of _ (by decide +kernel)) ggL_law_X11_undo
set_option maxRecDepth 20000 in
theorem ggL_law_X10_count : GoodIn wsL_law wsX10_count := goodIn_r _ [1031, 16, 164, 166, 378, 703, 147, 33, 987, 1036, 1037, 1038, 1039, 1040, 1041, 1042, 1081, 1082, 1083, 1084, 1085, 1086, 1087, 1112, 1113, 1114, 1115, 1116, 1117, 1118, 1119, 1110, 1111] (by decide +kernel) (by decide +kernel)
set_option maxRecDepth 20000 in
theorem gL_law_X10_count : GoodIn wsL_law (wsV RL 125 RX10 yX10_count wsX10_count) := goodIn_app (goodIn_of _ (by decide +kernel)) ggL_law_X10_count
set_option maxRecDepth 20000 in
theorem ggL_law_X11_count : GoodIn wsL_law wsX11_count := goodIn_r _ [1035, 128, 944, 1043, 1044, 1045, 1046, 1047, 1048, 1049, 1050, 1051, 1052, 1053, 1054, 1055, 1056, 1057, 1058, 1059, 1060, 1061, 1062, 1063, 1064, 1065, 1066, 1067, 1068, 1069, 1070, 1071, 1072, 1073, 1074, 1075, 1076, 1077, 1078, 1079, 1080] (by decide +kernel) (by decide +kernel)
set_option maxRecDepth 20000 in
theorem gL_law_X11_count : GoodIn wsL_law (wsV RL 128 RX11 yX11_count wsX11_count) := goodIn_app (goodIn_of _ (by decide +kernel)) ggL_law_X11_count
