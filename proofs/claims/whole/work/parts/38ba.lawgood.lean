set_option maxRecDepth 20000 in
theorem ggL_law_X10_stream : GoodIn wsL_law wsX10_stream := goodIn_r _ [538, 16, 164, 539, 540, 541, 525, 542, 526, 527, 543, 544, 545, 2, 546, 166, 1036, 1037, 1038, 1039, 1040, 1041, 1042, 1081, 1082, 1083, 1084, 1085, 1086, 1087, 1112, 1113, 1114, 1115, 1116, 1117, 1118, 1119, 1120, 1121, 1122, 1123, 1124, 1125, 1126] (by decide +kernel) (by decide +kernel)
set_option maxRecDepth 20000 in
theorem gL_law_X10_stream : GoodIn wsL_law (wsV RL 42 RX10 yX10_stream wsX10_stream) := goodIn_app (goodIn_of _ (by decide +kernel)) ggL_law_X10_stream
set_option maxRecDepth 20000 in
theorem ggL_law_X11_stream_p0 : GoodIn wsL_law (wsX11_stream.take 40) := goodIn_r _ [550, 128, 157, 158, 5, 159, 551, 552, 553, 554, 555, 556, 557, 558, 133, 134, 135, 559, 560, 561, 562, 563, 564, 565, 566, 567, 568, 569, 1043, 1044, 1045, 1046, 1047, 1048, 1049, 1050, 1051, 1052, 1053, 1054] (by decide +kernel) (by decide +kernel)
set_option maxRecDepth 20000 in
theorem ggL_law_X11_stream_p1 : GoodIn wsL_law (wsX11_stream.drop 40) := goodIn_r _ [1055, 1056, 1057, 1058, 1059, 1060, 1061, 1062, 1063, 1064, 1065, 1066, 1067, 1068, 1069, 1070, 1071, 1072, 1073, 1074, 1075, 1076, 1077, 1078, 1079, 1080] (by decide +kernel) (by decide +kernel)
theorem ggL_law_X11_stream : GoodIn wsL_law wsX11_stream := goodIn_cut 40 ggL_law_X11_stream_p0 ggL_law_X11_stream_p1
set_option maxRecDepth 20000 in
theorem gL_law_X11_stream : GoodIn wsL_law (wsV RL 46 RX11 yX11_stream wsX11_stream) := goodIn_app (goodIn_of _ (by decide +kernel)) ggL_law_X11_stream
set_option maxRecDepth 20000 in
theorem ggL_law_X10_level : GoodIn wsL_law wsX10_level := goodIn_r _ [573, 16, 164, 527, 525, 526, 530, 509, 510, 511, 2, 512, 166, 1036, 1037, 1038, 1039, 1040, 1041, 1042, 1081, 1082, 1083, 1084, 1085, 1086, 1087, 1112, 1113, 1114, 1115, 1116, 1117, 1118, 1119, 1120, 1121, 1122, 1123, 1124, 1125, 1126] (by decide +kernel) (by decide +kernel)
set_option maxRecDepth 20000 in
theorem gL_law_X10_level : GoodIn wsL_law (wsV RL 47 RX10 yX10_level wsX10_level) := goodIn_app (goodIn_of _ (by decide +kernel)) ggL_law_X10_level
set_option maxRecDepth 20000 in
theorem ggL_law_X11_level : GoodIn wsL_law wsX11_level := goodIn_r _ [577, 128, 517, 518, 519, 5, 520, 157, 158, 159, 1043, 1044, 1045, 1046, 1047, 1048, 1049, 1050, 1051, 1052, 1053, 1054, 1055, 1056, 1057, 1058, 1059, 1060, 1061, 1062, 1063, 1064, 1065, 1066, 1067, 1068, 1069, 1070, 1071, 1072, 1073, 1074, 1075, 1076, 1077, 1078, 1079, 1080] (by decide +kernel) (by decide +kernel)
set_option maxRecDepth 20000 in
theorem gL_law_X11_level : GoodIn wsL_law (wsV RL 50 RX11 yX11_level wsX11_level) := goodIn_app (goodIn_of _ (by decide +kernel)) ggL_law_X11_level
set_option maxRecDepth 20000 in
theorem ggL_law_X10_boards_p0 : GoodIn wsL_law (wsX10_boards.take 40) := goodIn_r _ [581, 29, 16, 509, 510, 511, 2, 512, 164, 166, 582, 583, 584, 28, 585, 99, 586, 101, 587, 588, 102, 103, 110, 589, 590, 325, 326, 43, 327, 53, 54, 55, 56, 57, 58, 59, 63, 186, 187, 188] (by decide +kernel) (by decide +kernel)
set_option maxRecDepth 20000 in
theorem ggL_law_X10_boards_p1 : GoodIn wsL_law ((wsX10_boards.drop 40).take 40) := goodIn_r _ [180, 181, 182, 189, 190, 191, 192, 328, 329, 330, 62, 331, 68, 69, 70, 72, 591, 493, 494, 15, 495, 47, 46, 592, 593, 594, 595, 596, 597, 598, 599, 600, 601, 602, 108, 603, 604, 605, 606, 607] (by decide +kernel) (by decide +kernel)
set_option maxRecDepth 20000 in
theorem ggL_law_X10_boards_p2 : GoodIn wsL_law (((wsX10_boards.drop 40).drop 40).take 40) := goodIn_r _ [608, 609, 610, 611, 612, 613, 614, 615, 381, 616, 433, 617, 618, 184, 185, 619, 620, 434, 621, 622, 623, 624, 436, 445, 437, 625, 626, 627, 628, 447, 449, 451, 629, 630, 631, 107, 632, 114, 115, 116] (by decide +kernel) (by decide +kernel)
set_option maxRecDepth 20000 in
theorem ggL_law_X10_boards_p3 : GoodIn wsL_law ((((wsX10_boards.drop 40).drop 40).drop 40).take 40) := goodIn_r _ [117, 633, 634, 635, 636, 637, 638, 639, 640, 641, 642, 643, 644, 1036, 1037, 1038, 1039, 1040, 1041, 1042, 1081, 1082, 1083, 1084, 1085, 1086, 1087, 1112, 1113, 1114, 1115, 1116, 1117, 1118, 1119, 1103, 1104, 1105, 1106, 1107] (by decide +kernel) (by decide +kernel)
set_option maxRecDepth 20000 in
theorem ggL_law_X10_boards_p4 : GoodIn wsL_law ((((wsX10_boards.drop 40).drop 40).drop 40).drop 40) := goodIn_r _ [1108, 1109, 1120, 1121, 1122, 1123, 1124, 1125, 1126, 1127, 1128, 1129, 1130, 1131, 1132, 1133, 1134, 1135, 1136, 1137, 1138, 1139] (by decide +kernel) (by decide +kernel)
theorem ggL_law_X10_boards : GoodIn wsL_law wsX10_boards := goodIn_cut 40 ggL_law_X10_boards_p0 (goodIn_cut 40 ggL_law_X10_boards_p1 (goodIn_cut 40 ggL_law_X10_boards_p2 (goodIn_cut 40 ggL_law_X10_boards_p3 ggL_law_X10_boards_p4)))
set_option maxRecDepth 20000 in
theorem gL_law_X10_boards : GoodIn wsL_law (wsV RL 51 RX10 yX10_boards wsX10_boards) := goodIn_app (goodIn_of _ (by decide +kernel)) ggL_law_X10_boards
set_option maxRecDepth 20000 in
theorem ggL_law_X11_boards_p0 : GoodIn wsL_law (wsX11_boards.take 40) := goodIn_r _ [648, 517, 518, 519, 5, 520, 128, 157, 158, 159, 555, 556, 557, 558, 133, 134, 135, 559, 649, 650, 651, 652, 653, 654, 655, 656, 657, 658, 659, 660, 661, 137, 662, 663, 664, 665, 666, 139, 560, 561] (by decide +kernel) (by decide +kernel)
set_option maxRecDepth 20000 in
theorem ggL_law_X11_boards_p1 : GoodIn wsL_law ((wsX11_boards.drop 40).take 40) := goodIn_r _ [562, 563, 564, 565, 566, 567, 568, 569, 667, 668, 669, 670, 671, 672, 673, 674, 1043, 1044, 1045, 1046, 1047, 1048, 1049, 1050, 1051, 1052, 1053, 1054, 1055, 1056, 1057, 1058, 1059, 1060, 1061, 1062, 1063, 1064, 1065, 1066] (by decide +kernel) (by decide +kernel)
set_option maxRecDepth 20000 in
theorem ggL_law_X11_boards_p2 : GoodIn wsL_law ((wsX11_boards.drop 40).drop 40) := goodIn_r _ [1067, 1068, 1069, 1070, 1071, 1072, 1073, 1074, 1075, 1076, 1077, 1078, 1079, 1080] (by decide +kernel) (by decide +kernel)
theorem ggL_law_X11_boards : GoodIn wsL_law wsX11_boards := goodIn_cut 40 ggL_law_X11_boards_p0 (goodIn_cut 40 ggL_law_X11_boards_p1 ggL_law_X11_boards_p2)
set_option maxRecDepth 20000 in
theorem gL_law_X11_boards : GoodIn wsL_law (wsV RL 54 RX11 yX11_boards wsX11_boards) := goodIn_app (goodIn_of _ (by decide +kernel)) ggL_law_X11_boards
set_option maxRecDepth 20000 in
theorem ggL_law_X10_hour_p0 : GoodIn wsL_law (wsX10_hour.take 40) := goodIn_r _ [678, 16, 164, 525, 542, 29, 679, 543, 544, 545, 2, 546, 166, 582, 583, 584, 28, 585, 99, 586, 101, 587, 588, 102, 103, 110, 589, 590, 325, 326, 43, 327, 53, 54, 55, 56, 57, 58, 59, 63] (by decide +kernel) (by decide +kernel)
set_option maxRecDepth 20000 in
theorem ggL_law_X10_hour_p1 : GoodIn wsL_law ((wsX10_hour.drop 40).take 40) := goodIn_r _ [186, 187, 188, 180, 181, 182, 189, 190, 191, 192, 328, 329, 330, 62, 331, 68, 69, 70, 72, 591, 493, 494, 15, 495, 47, 46, 592, 680, 681, 682, 683, 597, 599, 600, 601, 602, 108, 603, 604, 605] (by decide +kernel) (by decide +kernel)
set_option maxRecDepth 20000 in
theorem ggL_law_X10_hour_p2 : GoodIn wsL_law (((wsX10_hour.drop 40).drop 40).take 40) := goodIn_r _ [606, 607, 598, 608, 609, 610, 611, 612, 613, 614, 615, 381, 616, 433, 617, 618, 184, 185, 619, 620, 434, 621, 622, 623, 624, 436, 445, 437, 625, 626, 627, 628, 447, 449, 451, 629, 630, 631, 107, 632] (by decide +kernel) (by decide +kernel)
set_option maxRecDepth 20000 in
theorem ggL_law_X10_hour_p3 : GoodIn wsL_law ((((wsX10_hour.drop 40).drop 40).drop 40).take 40) := goodIn_r _ [114, 115, 116, 117, 633, 634, 635, 636, 637, 638, 639, 640, 641, 642, 643, 644, 684, 685, 686, 687, 688, 1036, 1037, 1038, 1039, 1040, 1041, 1042, 1081, 1082, 1083, 1084, 1085, 1086, 1087, 1112, 1113, 1114, 1115, 1116] (by decide +kernel) (by decide +kernel)
set_option maxRecDepth 20000 in
theorem ggL_law_X10_hour_p4 : GoodIn wsL_law ((((wsX10_hour.drop 40).drop 40).drop 40).drop 40) := goodIn_r _ [1117, 1118, 1119, 1120, 1121, 1122, 1123, 1124, 1125, 1126, 1103, 1104, 1105, 1106, 1107, 1108, 1109, 1127, 1128, 1129, 1130, 1131, 1132, 1133, 1134, 1135, 1136, 1137, 1138, 1139] (by decide +kernel) (by decide +kernel)
theorem ggL_law_X10_hour : GoodIn wsL_law wsX10_hour := goodIn_cut 40 ggL_law_X10_hour_p0 (goodIn_cut 40 ggL_law_X10_hour_p1 (goodIn_cut 40 ggL_law_X10_hour_p2 (goodIn_cut 40 ggL_law_X10_hour_p3 ggL_law_X10_hour_p4)))
set_option maxRecDepth 20000 in
theorem gL_law_X10_hour : GoodIn wsL_law (wsV RL 55 RX10 yX10_hour wsX10_hour) := goodIn_app (goodIn_of _ (by decide +kernel)) ggL_law_X10_hour
set_option maxRecDepth 20000 in
theorem ggL_law_X11_hour_p0 : GoodIn wsL_law (wsX11_hour.take 40) := goodIn_r _ [692, 128, 133, 134, 135, 693, 157, 158, 5, 159, 551, 552, 553, 554, 555, 556, 557, 558, 559, 694, 695, 696, 697, 698, 136, 649, 650, 651, 652, 653, 654, 655, 656, 657, 658, 659, 660, 661, 137, 662] (by decide +kernel) (by decide +kernel)
set_option maxRecDepth 20000 in
theorem ggL_law_X11_hour_p1 : GoodIn wsL_law ((wsX11_hour.drop 40).take 40) := goodIn_r _ [663, 664, 665, 666, 139, 560, 561, 562, 563, 564, 565, 566, 567, 568, 569, 667, 668, 669, 670, 671, 672, 673, 674, 1043, 1044, 1045, 1046, 1047, 1048, 1049, 1050, 1051, 1052, 1053, 1054, 1055, 1056, 1057, 1058, 1059] (by decide +kernel) (by decide +kernel)
set_option maxRecDepth 20000 in
theorem ggL_law_X11_hour_p2 : GoodIn wsL_law ((wsX11_hour.drop 40).drop 40) := goodIn_r _ [1060, 1061, 1062, 1063, 1064, 1065, 1066, 1067, 1068, 1069, 1070, 1071, 1072, 1073, 1074, 1075, 1076, 1077, 1078, 1079, 1080] (by decide +kernel) (by decide +kernel)
theorem ggL_law_X11_hour : GoodIn wsL_law wsX11_hour := goodIn_cut 40 ggL_law_X11_hour_p0 (goodIn_cut 40 ggL_law_X11_hour_p1 ggL_law_X11_hour_p2)
set_option maxRecDepth 20000 in
theorem gL_law_X11_hour : GoodIn wsL_law (wsV RL 58 RX11 yX11_hour wsX11_hour) := goodIn_app (goodIn_of _ (by decide +kernel)) ggL_law_X11_hour
set_option maxRecDepth 20000 in
theorem ggL_law_X10_rain : GoodIn wsL_law wsX10_rain := goodIn_r _ [702, 16, 703, 704, 705, 706, 15, 707, 49, 48, 1036, 1037, 1038, 1039, 1040, 1041, 1042, 1081, 1082, 1083, 1084, 1085, 1086, 1087] (by decide +kernel) (by decide +kernel)
set_option maxRecDepth 20000 in
theorem gL_law_X10_rain : GoodIn wsL_law (wsV RL 59 RX10 yX10_rain wsX10_rain) := goodIn_app (goodIn_of _ (by decide +kernel)) ggL_law_X10_rain
set_option maxRecDepth 20000 in
theorem ggL_law_X11_rain : GoodIn wsL_law wsX11_rain := goodIn_r _ [711, 128, 157, 158, 5, 159, 1043, 1044, 1045, 1046, 1047, 1048, 1049, 1050, 1051, 1052, 1053, 1054, 1055, 1056, 1057, 1058, 1059, 1060, 1061, 1062, 1063, 1064, 1065, 1066, 1067, 1068, 1069, 1070, 1071, 1072, 1073, 1074, 1075, 1076, 1077, 1078, 1079, 1080] (by decide +kernel) (by decide +kernel)
set_option maxRecDepth 20000 in
theorem gL_law_X11_rain : GoodIn wsL_law (wsV RL 62 RX11 yX11_rain wsX11_rain) := goodIn_app (goodIn_of _ (by decide +kernel)) ggL_law_X11_rain
set_option maxRecDepth 20000 in
theorem ggL_law_X10_run_p0 : GoodIn wsL_law (wsX10_run.take 40) := goodIn_r _ [715, 29, 16, 703, 716, 679, 543, 544, 545, 2, 546, 164, 166, 582, 583, 584, 28, 585, 99, 586, 101, 587, 588, 102, 103, 110, 589, 590, 325, 326, 43, 327, 53, 54, 55, 56, 57, 58, 59, 63] (by decide +kernel) (by decide +kernel)
set_option maxRecDepth 20000 in
theorem ggL_law_X10_run_p1 : GoodIn wsL_law ((wsX10_run.drop 40).take 40) := goodIn_r _ [186, 187, 188, 180, 181, 182, 189, 190, 191, 192, 328, 329, 330, 62, 331, 68, 69, 70, 72, 591, 493, 494, 15, 495, 47, 46, 592, 680, 681, 682, 683, 597, 599, 600, 601, 602, 108, 603, 604, 605] (by decide +kernel) (by decide +kernel)
set_option maxRecDepth 20000 in
theorem ggL_law_X10_run_p2 : GoodIn wsL_law (((wsX10_run.drop 40).drop 40).take 40) := goodIn_r _ [606, 607, 598, 608, 609, 610, 611, 612, 613, 614, 615, 381, 616, 433, 617, 618, 184, 185, 619, 620, 434, 621, 622, 623, 624, 436, 445, 437, 625, 626, 627, 628, 447, 449, 451, 629, 630, 631, 107, 632] (by decide +kernel) (by decide +kernel)
set_option maxRecDepth 20000 in
theorem ggL_law_X10_run_p3 : GoodIn wsL_law ((((wsX10_run.drop 40).drop 40).drop 40).take 40) := goodIn_r _ [114, 115, 116, 117, 633, 634, 635, 636, 637, 638, 639, 640, 641, 642, 643, 644, 684, 685, 686, 687, 717, 718, 719, 720, 721, 722, 723, 724, 725, 726, 727, 728, 1036, 1037, 1038, 1039, 1040, 1041, 1042, 1081] (by decide +kernel) (by decide +kernel)
set_option maxRecDepth 20000 in
theorem ggL_law_X10_run_p4 : GoodIn wsL_law ((((wsX10_run.drop 40).drop 40).drop 40).drop 40) := goodIn_r _ [1082, 1083, 1084, 1085, 1086, 1087, 1103, 1104, 1105, 1106, 1107, 1108, 1109, 1112, 1113, 1114, 1115, 1116, 1117, 1118, 1119, 1120, 1121, 1122, 1123, 1124, 1125, 1126, 1127, 1128, 1129, 1130, 1131, 1132, 1133, 1134, 1135, 1136, 1137, 1138, 1139] (by decide +kernel) (by decide +kernel)
theorem ggL_law_X10_run : GoodIn wsL_law wsX10_run := goodIn_cut 40 ggL_law_X10_run_p0 (goodIn_cut 40 ggL_law_X10_run_p1 (goodIn_cut 40 ggL_law_X10_run_p2 (goodIn_cut 40 ggL_law_X10_run_p3 ggL_law_X10_run_p4)))
set_option maxRecDepth 20000 in
theorem gL_law_X10_run : GoodIn wsL_law (wsV RL 63 RX10 yX10_run wsX10_run) := goodIn_app (goodIn_of _ (by decide +kernel)) ggL_law_X10_run
set_option maxRecDepth 20000 in
theorem ggL_law_X11_run_p0 : GoodIn wsL_law (wsX11_run.take 40) := goodIn_r _ [732, 128, 693, 698, 133, 157, 158, 5, 159, 551, 552, 553, 554, 555, 556, 557, 558, 134, 135, 559, 694, 695, 696, 697, 136, 649, 650, 651, 652, 653, 654, 655, 656, 657, 658, 659, 660, 661, 137, 662] (by decide +kernel) (by decide +kernel)
set_option maxRecDepth 20000 in
theorem ggL_law_X11_run_p1 : GoodIn wsL_law ((wsX11_run.drop 40).take 40) := goodIn_r _ [663, 664, 665, 666, 139, 560, 561, 562, 563, 564, 565, 566, 567, 568, 569, 667, 668, 669, 670, 671, 672, 673, 674, 733, 734, 735, 1043, 1044, 1045, 1046, 1047, 1048, 1049, 1050, 1051, 1052, 1053, 1054, 1055, 1056] (by decide +kernel) (by decide +kernel)
set_option maxRecDepth 20000 in
theorem ggL_law_X11_run_p2 : GoodIn wsL_law ((wsX11_run.drop 40).drop 40) := goodIn_r _ [1057, 1058, 1059, 1060, 1061, 1062, 1063, 1064, 1065, 1066, 1067, 1068, 1069, 1070, 1071, 1072, 1073, 1074, 1075, 1076, 1077, 1078, 1079, 1080] (by decide +kernel) (by decide +kernel)
theorem ggL_law_X11_run : GoodIn wsL_law wsX11_run := goodIn_cut 40 ggL_law_X11_run_p0 (goodIn_cut 40 ggL_law_X11_run_p1 ggL_law_X11_run_p2)
set_option maxRecDepth 20000 in
theorem gL_law_X11_run : GoodIn wsL_law (wsV RL 66 RX11 yX11_run wsX11_run) := goodIn_app (goodIn_of _ (by decide +kernel)) ggL_law_X11_run
set_option maxRecDepth 20000 in
theorem ggL_law_X10_holds_p0 : GoodIn wsL_law (wsX10_holds.take 40) := goodIn_r _ [739, 29, 16, 543, 544, 545, 2, 546, 164, 166, 582, 583, 584, 28, 585, 99, 586, 101, 587, 588, 102, 103, 110, 589, 590, 325, 326, 43, 327, 53, 54, 55, 56, 57, 58, 59, 63, 186, 187, 188] (by decide +kernel) (by decide +kernel)
set_option maxRecDepth 20000 in
theorem ggL_law_X10_holds_p1 : GoodIn wsL_law ((wsX10_holds.drop 40).take 40) := goodIn_r _ [180, 181, 182, 189, 190, 191, 192, 328, 329, 330, 62, 331, 68, 69, 70, 72, 591, 493, 494, 15, 495, 47, 46, 592, 740, 741, 742, 743, 744, 104, 745, 746, 747, 748, 749, 597, 750, 599, 600, 601] (by decide +kernel) (by decide +kernel)
set_option maxRecDepth 20000 in
theorem ggL_law_X10_holds_p2 : GoodIn wsL_law (((wsX10_holds.drop 40).drop 40).take 40) := goodIn_r _ [602, 108, 603, 604, 605, 606, 607, 598, 608, 609, 610, 611, 612, 613, 614, 615, 381, 616, 433, 617, 618, 184, 185, 619, 620, 434, 621, 622, 623, 624, 436, 445, 437, 625, 626, 627, 628, 447, 449, 451] (by decide +kernel) (by decide +kernel)
set_option maxRecDepth 20000 in
theorem ggL_law_X10_holds_p3 : GoodIn wsL_law ((((wsX10_holds.drop 40).drop 40).drop 40).take 40) := goodIn_r _ [629, 630, 631, 107, 632, 114, 115, 116, 117, 633, 634, 635, 636, 637, 638, 639, 640, 641, 642, 643, 644, 751, 752, 753, 754, 755, 756, 757, 758, 759, 760, 761, 684, 685, 686, 687, 1036, 1037, 1038, 1039] (by decide +kernel) (by decide +kernel)
set_option maxRecDepth 20000 in
theorem ggL_law_X10_holds_p4 : GoodIn wsL_law ((((wsX10_holds.drop 40).drop 40).drop 40).drop 40) := goodIn_r _ [1040, 1041, 1042, 1081, 1082, 1083, 1084, 1085, 1086, 1087, 1112, 1113, 1114, 1115, 1116, 1117, 1118, 1119, 1103, 1104, 1105, 1106, 1107, 1108, 1109, 1120, 1121, 1122, 1123, 1124, 1125, 1126, 1127, 1128, 1129, 1130, 1131, 1132, 1133, 1134, 1135, 1136, 1137, 1138, 1139] (by decide +kernel) (by decide +kernel)
theorem ggL_law_X10_holds : GoodIn wsL_law wsX10_holds := goodIn_cut 40 ggL_law_X10_holds_p0 (goodIn_cut 40 ggL_law_X10_holds_p1 (goodIn_cut 40 ggL_law_X10_holds_p2 (goodIn_cut 40 ggL_law_X10_holds_p3 ggL_law_X10_holds_p4)))
set_option maxRecDepth 20000 in
theorem gL_law_X10_holds : GoodIn wsL_law (wsV RL 67 RX10 yX10_holds wsX10_holds) := goodIn_app (goodIn_of _ (by decide +kernel)) ggL_law_X10_holds
set_option maxRecDepth 20000 in
theorem ggL_law_X11_holds_p0 : GoodIn wsL_law (wsX11_holds.take 40) := goodIn_r _ [765, 551, 552, 553, 5, 554, 128, 766, 767, 768, 769, 770, 771, 772, 773, 774, 775, 776, 777, 778, 779, 693, 555, 556, 557, 558, 133, 134, 135, 559, 780, 781, 782, 783, 784, 785, 786, 694, 695, 696] (by decide +kernel) (by decide +kernel)
set_option maxRecDepth 20000 in
theorem ggL_law_X11_holds_p1 : GoodIn wsL_law ((wsX11_holds.drop 40).take 40) := goodIn_r _ [697, 698, 136, 649, 650, 651, 652, 653, 654, 655, 656, 657, 658, 659, 660, 661, 137, 662, 663, 664, 665, 666, 139, 560, 561, 562, 563, 564, 565, 566, 567, 568, 569, 667, 668, 669, 670, 671, 672, 673] (by decide +kernel) (by decide +kernel)
set_option maxRecDepth 20000 in
theorem ggL_law_X11_holds_p2 : GoodIn wsL_law ((wsX11_holds.drop 40).drop 40) := goodIn_r _ [674, 1043, 1044, 1045, 1046, 1047, 1048, 1049, 1050, 1051, 1052, 1053, 1054, 1055, 1056, 1057, 1058, 1059, 1060, 1061, 1062, 1063, 1064, 1065, 1066, 1067, 1068, 1069, 1070, 1071, 1072, 1073, 1074, 1075, 1076, 1077, 1078, 1079, 1080] (by decide +kernel) (by decide +kernel)
theorem ggL_law_X11_holds : GoodIn wsL_law wsX11_holds := goodIn_cut 40 ggL_law_X11_holds_p0 (goodIn_cut 40 ggL_law_X11_holds_p1 ggL_law_X11_holds_p2)
set_option maxRecDepth 20000 in
theorem gL_law_X11_holds : GoodIn wsL_law (wsV RL 70 RX11 yX11_holds wsX11_holds) := goodIn_app (goodIn_of _ (by decide +kernel)) ggL_law_X11_holds
