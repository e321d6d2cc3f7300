set_option maxRecDepth 20000 in
theorem ggL_law_X10_fails_p0 : GoodIn wsL_law (wsX10_fails.take 40) := goodIn_r _ [790, 29, 16, 791, 543, 544, 545, 2, 546, 164, 166, 582, 583, 584, 28, 585, 99, 586, 101, 587, 588, 102, 103, 110, 589, 590, 325, 326, 43, 327, 53, 54, 55, 56, 57, 58, 59, 63, 186, 187] (by decide +kernel) (by decide +kernel)
set_option maxRecDepth 20000 in
theorem ggL_law_X10_fails_p1 : GoodIn wsL_law ((wsX10_fails.drop 40).take 40) := goodIn_r _ [188, 180, 181, 182, 189, 190, 191, 192, 328, 329, 330, 62, 331, 68, 69, 70, 72, 591, 493, 494, 15, 495, 47, 46, 592, 740, 741, 742, 743, 744, 104, 745, 746, 747, 748, 749, 597, 750, 599, 600] (by decide +kernel) (by decide +kernel)
set_option maxRecDepth 20000 in
theorem ggL_law_X10_fails_p2 : GoodIn wsL_law (((wsX10_fails.drop 40).drop 40).take 40) := goodIn_r _ [601, 602, 108, 603, 604, 605, 606, 607, 598, 608, 609, 610, 611, 612, 613, 614, 615, 381, 616, 433, 617, 618, 184, 185, 619, 620, 434, 621, 622, 623, 624, 436, 445, 437, 625, 626, 627, 628, 447, 449] (by decide +kernel) (by decide +kernel)
set_option maxRecDepth 20000 in
theorem ggL_law_X10_fails_p3 : GoodIn wsL_law ((((wsX10_fails.drop 40).drop 40).drop 40).take 40) := goodIn_r _ [451, 629, 630, 631, 107, 632, 114, 115, 116, 117, 633, 634, 635, 636, 637, 638, 639, 640, 641, 642, 643, 644, 751, 752, 753, 754, 755, 756, 757, 758, 759, 760, 761, 684, 685, 686, 687, 792, 793, 794] (by decide +kernel) (by decide +kernel)
set_option maxRecDepth 20000 in
theorem ggL_law_X10_fails_p4 : GoodIn wsL_law ((((wsX10_fails.drop 40).drop 40).drop 40).drop 40) := goodIn_r _ [795, 1036, 1037, 1038, 1039, 1040, 1041, 1042, 1103, 1104, 1105, 1106, 1107, 1108, 1109, 1081, 1082, 1083, 1084, 1085, 1086, 1087, 1112, 1113, 1114, 1115, 1116, 1117, 1118, 1119, 1120, 1121, 1122, 1123, 1124, 1125, 1126, 1127, 1128, 1129, 1130, 1131, 1132, 1133, 1134, 1135, 1136, 1137, 1138, 1139] (by decide +kernel) (by decide +kernel)
theorem ggL_law_X10_fails : GoodIn wsL_law wsX10_fails := goodIn_cut 40 ggL_law_X10_fails_p0 (goodIn_cut 40 ggL_law_X10_fails_p1 (goodIn_cut 40 ggL_law_X10_fails_p2 (goodIn_cut 40 ggL_law_X10_fails_p3 ggL_law_X10_fails_p4)))
set_option maxRecDepth 20000 in
theorem gL_law_X10_fails : GoodIn wsL_law (wsV RL 71 RX10 yX10_fails wsX10_fails) := goodIn_app (goodIn_of _ (by decide +kernel)) ggL_law_X10_fails
set_option maxRecDepth 20000 in
theorem ggL_law_X11_fails_p0 : GoodIn wsL_law (wsX11_fails.take 40) := goodIn_r _ [799, 770, 771, 157, 158, 5, 159, 551, 552, 553, 554, 128, 766, 767, 768, 769, 772, 773, 774, 775, 776, 777, 778, 779, 693, 555, 556, 557, 558, 133, 134, 135, 559, 780, 781, 782, 783, 784, 785, 786] (by decide +kernel) (by decide +kernel)
set_option maxRecDepth 20000 in
theorem ggL_law_X11_fails_p1 : GoodIn wsL_law ((wsX11_fails.drop 40).take 40) := goodIn_r _ [694, 695, 696, 697, 698, 136, 649, 650, 651, 652, 653, 654, 655, 656, 657, 658, 659, 660, 661, 137, 662, 663, 664, 665, 666, 139, 560, 561, 562, 563, 564, 565, 566, 567, 568, 569, 667, 668, 669, 670] (by decide +kernel) (by decide +kernel)
set_option maxRecDepth 20000 in
theorem ggL_law_X11_fails_p2 : GoodIn wsL_law ((wsX11_fails.drop 40).drop 40) := goodIn_r _ [671, 672, 673, 674, 1043, 1044, 1045, 1046, 1047, 1048, 1049, 1050, 1051, 1052, 1053, 1054, 1055, 1056, 1057, 1058, 1059, 1060, 1061, 1062, 1063, 1064, 1065, 1066, 1067, 1068, 1069, 1070, 1071, 1072, 1073, 1074, 1075, 1076, 1077, 1078, 1079, 1080] (by decide +kernel) (by decide +kernel)
theorem ggL_law_X11_fails : GoodIn wsL_law wsX11_fails := goodIn_cut 40 ggL_law_X11_fails_p0 (goodIn_cut 40 ggL_law_X11_fails_p1 ggL_law_X11_fails_p2)
set_option maxRecDepth 20000 in
theorem gL_law_X11_fails : GoodIn wsL_law (wsV RL 74 RX11 yX11_fails wsX11_fails) := goodIn_app (goodIn_of _ (by decide +kernel)) ggL_law_X11_fails
set_option maxRecDepth 20000 in
theorem ggL_law_X10_fixed_p0 : GoodIn wsL_law (wsX10_fixed.take 40) := goodIn_r _ [803, 29, 16, 164, 166, 679, 529, 509, 510, 511, 2, 512, 543, 544, 545, 546, 582, 583, 584, 28, 585, 99, 586, 101, 587, 588, 102, 103, 110, 589, 590, 325, 326, 43, 327, 53, 54, 55, 56, 57] (by decide +kernel) (by decide +kernel)
set_option maxRecDepth 20000 in
theorem ggL_law_X10_fixed_p1 : GoodIn wsL_law ((wsX10_fixed.drop 40).take 40) := goodIn_r _ [58, 59, 63, 186, 187, 188, 180, 181, 182, 189, 190, 191, 192, 328, 329, 330, 62, 331, 68, 69, 70, 72, 591, 493, 494, 15, 495, 47, 46, 592, 804, 805, 806, 807, 611, 598, 740, 741, 742, 743] (by decide +kernel) (by decide +kernel)
set_option maxRecDepth 20000 in
theorem ggL_law_X10_fixed_p2 : GoodIn wsL_law (((wsX10_fixed.drop 40).drop 40).take 40) := goodIn_r _ [744, 104, 745, 746, 747, 748, 749, 597, 750, 599, 600, 601, 602, 108, 603, 604, 605, 606, 607, 608, 609, 610, 612, 613, 614, 615, 381, 616, 433, 617, 618, 184, 185, 619, 620, 434, 621, 622, 623, 624] (by decide +kernel) (by decide +kernel)
set_option maxRecDepth 20000 in
theorem ggL_law_X10_fixed_p3 : GoodIn wsL_law ((((wsX10_fixed.drop 40).drop 40).drop 40).take 40) := goodIn_r _ [436, 445, 437, 625, 626, 627, 628, 447, 449, 451, 629, 630, 631, 107, 632, 114, 115, 116, 117, 633, 634, 635, 636, 637, 638, 639, 640, 641, 642, 643, 644, 751, 752, 753, 754, 755, 756, 757, 758, 759] (by decide +kernel) (by decide +kernel)
set_option maxRecDepth 20000 in
theorem ggL_law_X10_fixed_p4 : GoodIn wsL_law (((((wsX10_fixed.drop 40).drop 40).drop 40).drop 40).take 40) := goodIn_r _ [760, 761, 684, 685, 686, 687, 1036, 1037, 1038, 1039, 1040, 1041, 1042, 1081, 1082, 1083, 1084, 1085, 1086, 1087, 1112, 1113, 1114, 1115, 1116, 1117, 1118, 1119, 1103, 1104, 1105, 1106, 1107, 1108, 1109, 1120, 1121, 1122, 1123, 1124] (by decide +kernel) (by decide +kernel)
set_option maxRecDepth 20000 in
theorem ggL_law_X10_fixed_p5 : GoodIn wsL_law (((((wsX10_fixed.drop 40).drop 40).drop 40).drop 40).drop 40) := goodIn_r _ [1125, 1126, 1127, 1128, 1129, 1130, 1131, 1132, 1133, 1134, 1135, 1136, 1137, 1138, 1139] (by decide +kernel) (by decide +kernel)
theorem ggL_law_X10_fixed : GoodIn wsL_law wsX10_fixed := goodIn_cut 40 ggL_law_X10_fixed_p0 (goodIn_cut 40 ggL_law_X10_fixed_p1 (goodIn_cut 40 ggL_law_X10_fixed_p2 (goodIn_cut 40 ggL_law_X10_fixed_p3 (goodIn_cut 40 ggL_law_X10_fixed_p4 ggL_law_X10_fixed_p5))))
set_option maxRecDepth 20000 in
theorem gL_law_X10_fixed : GoodIn wsL_law (wsV RL 75 RX10 yX10_fixed wsX10_fixed) := goodIn_app (goodIn_of _ (by decide +kernel)) ggL_law_X10_fixed
set_option maxRecDepth 20000 in
theorem ggL_law_X11_fixed_p0 : GoodIn wsL_law (wsX11_fixed.take 40) := goodIn_r _ [811, 140, 128, 653, 517, 518, 519, 5, 520, 157, 158, 159, 551, 552, 553, 554, 766, 767, 768, 769, 770, 771, 772, 773, 774, 775, 776, 777, 778, 779, 693, 555, 556, 557, 558, 133, 134, 135, 559, 780] (by decide +kernel) (by decide +kernel)
set_option maxRecDepth 20000 in
theorem ggL_law_X11_fixed_p1 : GoodIn wsL_law ((wsX11_fixed.drop 40).take 40) := goodIn_r _ [781, 782, 783, 784, 785, 786, 694, 695, 696, 697, 698, 136, 649, 650, 651, 652, 654, 655, 656, 657, 658, 659, 660, 661, 137, 662, 663, 664, 665, 666, 139, 560, 561, 562, 563, 564, 565, 566, 567, 568] (by decide +kernel) (by decide +kernel)
set_option maxRecDepth 20000 in
theorem ggL_law_X11_fixed_p2 : GoodIn wsL_law ((wsX11_fixed.drop 40).drop 40) := goodIn_r _ [569, 667, 668, 669, 670, 671, 672, 673, 674, 1043, 1044, 1045, 1046, 1047, 1048, 1049, 1050, 1051, 1052, 1053, 1054, 1055, 1056, 1057, 1058, 1059, 1060, 1061, 1062, 1063, 1064, 1065, 1066, 1067, 1068, 1069, 1070, 1071, 1072, 1073, 1074, 1075, 1076, 1077, 1078, 1079, 1080] (by decide +kernel) (by decide +kernel)
theorem ggL_law_X11_fixed : GoodIn wsL_law wsX11_fixed := goodIn_cut 40 ggL_law_X11_fixed_p0 (goodIn_cut 40 ggL_law_X11_fixed_p1 ggL_law_X11_fixed_p2)
set_option maxRecDepth 20000 in
theorem gL_law_X11_fixed : GoodIn wsL_law (wsV RL 78 RX11 yX11_fixed wsX11_fixed) := goodIn_app (goodIn_of _ (by decide +kernel)) ggL_law_X11_fixed
set_option maxRecDepth 20000 in
theorem ggL_law_X10_found_p0 : GoodIn wsL_law (wsX10_found.take 40) := goodIn_r _ [815, 16, 164, 508, 29, 379, 380, 381, 509, 510, 511, 2, 512, 166, 492, 493, 494, 15, 495, 47, 46, 582, 583, 584, 28, 585, 99, 586, 101, 587, 588, 102, 103, 110, 589, 590, 325, 326, 43, 327] (by decide +kernel) (by decide +kernel)
set_option maxRecDepth 20000 in
theorem ggL_law_X10_found_p1 : GoodIn wsL_law ((wsX10_found.drop 40).take 40) := goodIn_r _ [53, 54, 55, 56, 57, 58, 59, 63, 186, 187, 188, 180, 181, 182, 189, 190, 191, 192, 328, 329, 330, 62, 331, 68, 69, 70, 72, 591, 592, 816, 817, 818, 431, 11, 12, 432, 433, 434, 436, 437] (by decide +kernel) (by decide +kernel)
set_option maxRecDepth 20000 in
theorem ggL_law_X10_found_p2 : GoodIn wsL_law (((wsX10_found.drop 40).drop 40).take 40) := goodIn_r _ [445, 447, 449, 451, 819, 820, 821, 822, 823, 740, 741, 742, 743, 744, 104, 745, 746, 747, 748, 749, 597, 750, 599, 600, 601, 602, 108, 603, 604, 605, 606, 607, 598, 608, 609, 610, 611, 612, 613, 614] (by decide +kernel) (by decide +kernel)
set_option maxRecDepth 20000 in
theorem ggL_law_X10_found_p3 : GoodIn wsL_law ((((wsX10_found.drop 40).drop 40).drop 40).take 40) := goodIn_r _ [615, 616, 617, 618, 184, 185, 619, 620, 621, 622, 623, 624, 625, 626, 627, 628, 629, 630, 631, 107, 632, 114, 115, 116, 117, 633, 634, 635, 636, 637, 638, 639, 640, 641, 642, 643, 644, 751, 752, 753] (by decide +kernel) (by decide +kernel)
set_option maxRecDepth 20000 in
theorem ggL_law_X10_found_p4 : GoodIn wsL_law (((((wsX10_found.drop 40).drop 40).drop 40).drop 40).take 40) := goodIn_r _ [754, 755, 756, 757, 758, 759, 760, 761, 684, 685, 686, 687, 1036, 1037, 1038, 1039, 1040, 1041, 1042, 1081, 1082, 1083, 1084, 1085, 1086, 1087, 1112, 1113, 1114, 1115, 1116, 1117, 1118, 1119, 1131, 1132, 1133, 1134, 1135, 1136] (by decide +kernel) (by decide +kernel)
set_option maxRecDepth 20000 in
theorem ggL_law_X10_found_p5 : GoodIn wsL_law (((((wsX10_found.drop 40).drop 40).drop 40).drop 40).drop 40) := goodIn_r _ [1137, 1138, 1139, 1103, 1104, 1105, 1106, 1107, 1108, 1109, 1120, 1121, 1122, 1123, 1124, 1125, 1126, 1127, 1128, 1129, 1130] (by decide +kernel) (by decide +kernel)
theorem ggL_law_X10_found : GoodIn wsL_law wsX10_found := goodIn_cut 40 ggL_law_X10_found_p0 (goodIn_cut 40 ggL_law_X10_found_p1 (goodIn_cut 40 ggL_law_X10_found_p2 (goodIn_cut 40 ggL_law_X10_found_p3 (goodIn_cut 40 ggL_law_X10_found_p4 ggL_law_X10_found_p5))))
set_option maxRecDepth 20000 in
theorem gL_law_X10_found : GoodIn wsL_law (wsV RL 79 RX10 yX10_found wsX10_found) := goodIn_app (goodIn_of _ (by decide +kernel)) ggL_law_X10_found
set_option maxRecDepth 20000 in
theorem ggL_law_X11_found_p0 : GoodIn wsL_law (wsX11_found.take 40) := goodIn_r _ [827, 128, 517, 518, 519, 5, 520, 157, 158, 159, 766, 767, 768, 769, 770, 771, 772, 773, 774, 775, 776, 777, 778, 779, 693, 555, 556, 557, 558, 133, 134, 135, 559, 780, 781, 782, 783, 784, 785, 786] (by decide +kernel) (by decide +kernel)
set_option maxRecDepth 20000 in
theorem ggL_law_X11_found_p1 : GoodIn wsL_law ((wsX11_found.drop 40).take 40) := goodIn_r _ [694, 695, 696, 697, 698, 136, 649, 650, 651, 652, 653, 654, 655, 656, 657, 658, 659, 660, 661, 137, 662, 663, 664, 665, 666, 139, 560, 561, 562, 563, 564, 565, 566, 567, 568, 569, 667, 668, 669, 670] (by decide +kernel) (by decide +kernel)
set_option maxRecDepth 20000 in
theorem ggL_law_X11_found_p2 : GoodIn wsL_law ((wsX11_found.drop 40).drop 40) := goodIn_r _ [671, 672, 673, 674, 1043, 1044, 1045, 1046, 1047, 1048, 1049, 1050, 1051, 1052, 1053, 1054, 1055, 1056, 1057, 1058, 1059, 1060, 1061, 1062, 1063, 1064, 1065, 1066, 1067, 1068, 1069, 1070, 1071, 1072, 1073, 1074, 1075, 1076, 1077, 1078, 1079, 1080] (by decide +kernel) (by decide +kernel)
theorem ggL_law_X11_found : GoodIn wsL_law wsX11_found := goodIn_cut 40 ggL_law_X11_found_p0 (goodIn_cut 40 ggL_law_X11_found_p1 ggL_law_X11_found_p2)
set_option maxRecDepth 20000 in
theorem gL_law_X11_found : GoodIn wsL_law (wsV RL 82 RX11 yX11_found wsX11_found) := goodIn_app (goodIn_of _ (by decide +kernel)) ggL_law_X11_found
set_option maxRecDepth 20000 in
theorem ggL_law_X10_lines_p0 : GoodIn wsL_law (wsX10_lines.take 40) := goodIn_r _ [831, 16, 29, 491, 379, 380, 381, 490, 492, 493, 494, 15, 495, 47, 46, 543, 544, 545, 2, 546, 164, 166, 582, 583, 584, 28, 585, 99, 586, 101, 587, 588, 102, 103, 110, 589, 590, 325, 326, 43] (by decide +kernel) (by decide +kernel)
set_option maxRecDepth 20000 in
theorem ggL_law_X10_lines_p1 : GoodIn wsL_law ((wsX10_lines.drop 40).take 40) := goodIn_r _ [327, 53, 54, 55, 56, 57, 58, 59, 63, 186, 187, 188, 180, 181, 182, 189, 190, 191, 192, 328, 329, 330, 62, 331, 68, 69, 70, 72, 591, 592, 740, 741, 742, 743, 744, 104, 745, 746, 747, 748] (by decide +kernel) (by decide +kernel)
set_option maxRecDepth 20000 in
theorem ggL_law_X10_lines_p2 : GoodIn wsL_law (((wsX10_lines.drop 40).drop 40).take 40) := goodIn_r _ [749, 597, 750, 599, 600, 601, 602, 108, 603, 604, 605, 606, 607, 598, 608, 609, 610, 611, 612, 613, 614, 615, 616, 433, 617, 618, 184, 185, 619, 620, 434, 621, 622, 623, 624, 436, 445, 437, 625, 626] (by decide +kernel) (by decide +kernel)
set_option maxRecDepth 20000 in
theorem ggL_law_X10_lines_p3 : GoodIn wsL_law ((((wsX10_lines.drop 40).drop 40).drop 40).take 40) := goodIn_r _ [627, 628, 447, 449, 451, 629, 630, 631, 107, 632, 114, 115, 116, 117, 633, 634, 635, 636, 637, 638, 639, 640, 641, 642, 643, 644, 751, 752, 753, 754, 755, 756, 757, 758, 759, 760, 761, 684, 685, 686] (by decide +kernel) (by decide +kernel)
set_option maxRecDepth 20000 in
theorem ggL_law_X10_lines_p4 : GoodIn wsL_law (((((wsX10_lines.drop 40).drop 40).drop 40).drop 40).take 40) := goodIn_r _ [687, 816, 817, 818, 431, 11, 12, 432, 819, 820, 821, 822, 823, 1036, 1037, 1038, 1039, 1040, 1041, 1042, 1131, 1132, 1133, 1134, 1135, 1136, 1137, 1138, 1139, 1081, 1082, 1083, 1084, 1085, 1086, 1087, 1112, 1113, 1114, 1115] (by decide +kernel) (by decide +kernel)
set_option maxRecDepth 20000 in
theorem ggL_law_X10_lines_p5 : GoodIn wsL_law (((((wsX10_lines.drop 40).drop 40).drop 40).drop 40).drop 40) := goodIn_r _ [1116, 1117, 1118, 1119, 1103, 1104, 1105, 1106, 1107, 1108, 1109, 1120, 1121, 1122, 1123, 1124, 1125, 1126, 1127, 1128, 1129, 1130] (by decide +kernel) (by decide +kernel)
theorem ggL_law_X10_lines : GoodIn wsL_law wsX10_lines := goodIn_cut 40 ggL_law_X10_lines_p0 (goodIn_cut 40 ggL_law_X10_lines_p1 (goodIn_cut 40 ggL_law_X10_lines_p2 (goodIn_cut 40 ggL_law_X10_lines_p3 (goodIn_cut 40 ggL_law_X10_lines_p4 ggL_law_X10_lines_p5))))
set_option maxRecDepth 20000 in
theorem gL_law_X10_lines : GoodIn wsL_law (wsV RL 83 RX10 yX10_lines wsX10_lines) := goodIn_app (goodIn_of _ (by decide +kernel)) ggL_law_X10_lines
set_option maxRecDepth 20000 in
theorem ggL_law_X11_lines_p0 : GoodIn wsL_law (wsX11_lines.take 40) := goodIn_r _ [835, 128, 137, 662, 500, 501, 502, 5, 503, 157, 158, 159, 551, 552, 553, 554, 766, 767, 768, 769, 770, 771, 772, 773, 774, 775, 776, 777, 778, 779, 693, 555, 556, 557, 558, 133, 134, 135, 559, 780] (by decide +kernel) (by decide +kernel)
set_option maxRecDepth 20000 in
theorem ggL_law_X11_lines_p1 : GoodIn wsL_law ((wsX11_lines.drop 40).take 40) := goodIn_r _ [781, 782, 783, 784, 785, 786, 694, 695, 696, 697, 698, 136, 649, 650, 651, 652, 653, 654, 655, 656, 657, 658, 659, 660, 661, 663, 664, 665, 666, 139, 560, 561, 562, 563, 564, 565, 566, 567, 568, 569] (by decide +kernel) (by decide +kernel)
set_option maxRecDepth 20000 in
theorem ggL_law_X11_lines_p2 : GoodIn wsL_law ((wsX11_lines.drop 40).drop 40) := goodIn_r _ [667, 668, 669, 670, 671, 672, 673, 674, 1043, 1044, 1045, 1046, 1047, 1048, 1049, 1050, 1051, 1052, 1053, 1054, 1055, 1056, 1057, 1058, 1059, 1060, 1061, 1062, 1063, 1064, 1065, 1066, 1067, 1068, 1069, 1070, 1071, 1072, 1073, 1074, 1075, 1076, 1077, 1078, 1079, 1080] (by decide +kernel) (by decide +kernel)
theorem ggL_law_X11_lines : GoodIn wsL_law wsX11_lines := goodIn_cut 40 ggL_law_X11_lines_p0 (goodIn_cut 40 ggL_law_X11_lines_p1 ggL_law_X11_lines_p2)
set_option maxRecDepth 20000 in
theorem gL_law_X11_lines : GoodIn wsL_law (wsV RL 86 RX11 yX11_lines wsX11_lines) := goodIn_app (goodIn_of _ (by decide +kernel)) ggL_law_X11_lines
set_option maxRecDepth 20000 in
theorem ggL_law_X10_drunk_p0 : GoodIn wsL_law (wsX10_drunk.take 40) := goodIn_r _ [839, 29, 16, 164, 166, 840, 543, 544, 545, 2, 546, 582, 583, 584, 28, 585, 99, 586, 101, 587, 588, 102, 103, 110, 589, 590, 325, 326, 43, 327, 53, 54, 55, 56, 57, 58, 59, 63, 186, 187] (by decide +kernel) (by decide +kernel)
set_option maxRecDepth 20000 in
theorem ggL_law_X10_drunk_p1 : GoodIn wsL_law ((wsX10_drunk.drop 40).take 40) := goodIn_r _ [188, 180, 181, 182, 189, 190, 191, 192, 328, 329, 330, 62, 331, 68, 69, 70, 72, 591, 493, 494, 15, 495, 47, 46, 592, 740, 741, 742, 743, 744, 104, 745, 746, 747, 748, 749, 597, 750, 599, 600] (by decide +kernel) (by decide +kernel)
set_option maxRecDepth 20000 in
theorem ggL_law_X10_drunk_p2 : GoodIn wsL_law (((wsX10_drunk.drop 40).drop 40).take 40) := goodIn_r _ [601, 602, 108, 603, 604, 605, 606, 607, 598, 608, 609, 610, 611, 612, 613, 614, 615, 381, 616, 433, 617, 618, 184, 185, 619, 620, 434, 621, 622, 623, 624, 436, 445, 437, 625, 626, 627, 628, 447, 449] (by decide +kernel) (by decide +kernel)
set_option maxRecDepth 20000 in
theorem ggL_law_X10_drunk_p3 : GoodIn wsL_law ((((wsX10_drunk.drop 40).drop 40).drop 40).take 40) := goodIn_r _ [451, 629, 630, 631, 107, 632, 114, 115, 116, 117, 633, 634, 635, 636, 637, 638, 639, 640, 641, 642, 643, 644, 751, 752, 753, 754, 755, 756, 757, 758, 759, 760, 761, 684, 685, 686, 687, 841, 1036, 1037] (by decide +kernel) (by decide +kernel)
set_option maxRecDepth 20000 in
theorem ggL_law_X10_drunk_p4 : GoodIn wsL_law ((((wsX10_drunk.drop 40).drop 40).drop 40).drop 40) := goodIn_r _ [1038, 1039, 1040, 1041, 1042, 1081, 1082, 1083, 1084, 1085, 1086, 1087, 1112, 1113, 1114, 1115, 1116, 1117, 1118, 1119, 1103, 1104, 1105, 1106, 1107, 1108, 1109, 1120, 1121, 1122, 1123, 1124, 1125, 1126, 1127, 1128, 1129, 1130, 1131, 1132, 1133, 1134, 1135, 1136, 1137, 1138, 1139] (by decide +kernel) (by decide +kernel)
theorem ggL_law_X10_drunk : GoodIn wsL_law wsX10_drunk := goodIn_cut 40 ggL_law_X10_drunk_p0 (goodIn_cut 40 ggL_law_X10_drunk_p1 (goodIn_cut 40 ggL_law_X10_drunk_p2 (goodIn_cut 40 ggL_law_X10_drunk_p3 ggL_law_X10_drunk_p4)))
set_option maxRecDepth 20000 in
theorem gL_law_X10_drunk : GoodIn wsL_law (wsV RL 87 RX10 yX10_drunk wsX10_drunk) := goodIn_app (goodIn_of _ (by decide +kernel)) ggL_law_X10_drunk
set_option maxRecDepth 20000 in
theorem ggL_law_X11_drunk_p0 : GoodIn wsL_law (wsX11_drunk.take 40) := goodIn_r _ [845, 128, 653, 157, 158, 5, 159, 551, 552, 553, 554, 766, 767, 768, 769, 770, 771, 772, 773, 774, 775, 776, 777, 778, 779, 693, 555, 556, 557, 558, 133, 134, 135, 559, 780, 781, 782, 783, 784, 785] (by decide +kernel) (by decide +kernel)
set_option maxRecDepth 20000 in
theorem ggL_law_X11_drunk_p1 : GoodIn wsL_law ((wsX11_drunk.drop 40).take 40) := goodIn_r _ [786, 694, 695, 696, 697, 698, 136, 649, 650, 651, 652, 654, 655, 656, 657, 658, 659, 660, 661, 137, 662, 663, 664, 665, 666, 139, 560, 561, 562, 563, 564, 565, 566, 567, 568, 569, 667, 668, 669, 670] (by decide +kernel) (by decide +kernel)
set_option maxRecDepth 20000 in
theorem ggL_law_X11_drunk_p2 : GoodIn wsL_law ((wsX11_drunk.drop 40).drop 40) := goodIn_r _ [671, 672, 673, 674, 1043, 1044, 1045, 1046, 1047, 1048, 1049, 1050, 1051, 1052, 1053, 1054, 1055, 1056, 1057, 1058, 1059, 1060, 1061, 1062, 1063, 1064, 1065, 1066, 1067, 1068, 1069, 1070, 1071, 1072, 1073, 1074, 1075, 1076, 1077, 1078, 1079, 1080] (by decide +kernel) (by decide +kernel)
theorem ggL_law_X11_drunk : GoodIn wsL_law wsX11_drunk := goodIn_cut 40 ggL_law_X11_drunk_p0 (goodIn_cut 40 ggL_law_X11_drunk_p1 ggL_law_X11_drunk_p2)
set_option maxRecDepth 20000 in
theorem gL_law_X11_drunk : GoodIn wsL_law (wsV RL 90 RX11 yX11_drunk wsX11_drunk) := goodIn_app (goodIn_of _ (by decide +kernel)) ggL_law_X11_drunk
set_option maxRecDepth 20000 in
theorem ggL_law_X10_raised_p0 : GoodIn wsL_law (wsX10_raised.take 40) := goodIn_r _ [849, 29, 16, 164, 543, 544, 545, 2, 546, 166, 582, 583, 584, 28, 585, 99, 586, 101, 587, 588, 102, 103, 110, 589, 590, 325, 326, 43, 327, 53, 54, 55, 56, 57, 58, 59, 63, 186, 187, 188] (by decide +kernel) (by decide +kernel)
set_option maxRecDepth 20000 in
theorem ggL_law_X10_raised_p1 : GoodIn wsL_law ((wsX10_raised.drop 40).take 40) := goodIn_r _ [180, 181, 182, 189, 190, 191, 192, 328, 329, 330, 62, 331, 68, 69, 70, 72, 591, 493, 494, 15, 495, 47, 46, 592, 850, 851, 852, 853, 606, 611, 740, 741, 742, 743, 744, 104, 745, 746, 747, 748] (by decide +kernel) (by decide +kernel)
set_option maxRecDepth 20000 in
theorem ggL_law_X10_raised_p2 : GoodIn wsL_law (((wsX10_raised.drop 40).drop 40).take 40) := goodIn_r _ [749, 597, 750, 599, 600, 601, 602, 108, 603, 604, 605, 607, 598, 608, 609, 610, 612, 613, 614, 615, 381, 616, 433, 617, 618, 184, 185, 619, 620, 434, 621, 622, 623, 624, 436, 445, 437, 625, 626, 627] (by decide +kernel) (by decide +kernel)
set_option maxRecDepth 20000 in
theorem ggL_law_X10_raised_p3 : GoodIn wsL_law ((((wsX10_raised.drop 40).drop 40).drop 40).take 40) := goodIn_r _ [628, 447, 449, 451, 629, 630, 631, 107, 632, 114, 115, 116, 117, 633, 634, 635, 636, 637, 638, 639, 640, 641, 642, 643, 644, 751, 752, 753, 754, 755, 756, 757, 758, 759, 760, 761, 684, 685, 686, 687] (by decide +kernel) (by decide +kernel)
set_option maxRecDepth 20000 in
theorem ggL_law_X10_raised_p4 : GoodIn wsL_law ((((wsX10_raised.drop 40).drop 40).drop 40).drop 40) := goodIn_r _ [1036, 1037, 1038, 1039, 1040, 1041, 1042, 1081, 1082, 1083, 1084, 1085, 1086, 1087, 1112, 1113, 1114, 1115, 1116, 1117, 1118, 1119, 1103, 1104, 1105, 1106, 1107, 1108, 1109, 1120, 1121, 1122, 1123, 1124, 1125, 1126, 1127, 1128, 1129, 1130, 1131, 1132, 1133, 1134, 1135, 1136, 1137, 1138, 1139] (by decide +kernel) (by decide +kernel)
theorem ggL_law_X10_raised : GoodIn wsL_law wsX10_raised := goodIn_cut 40 ggL_law_X10_raised_p0 (goodIn_cut 40 ggL_law_X10_raised_p1 (goodIn_cut 40 ggL_law_X10_raised_p2 (goodIn_cut 40 ggL_law_X10_raised_p3 ggL_law_X10_raised_p4)))
set_option maxRecDepth 20000 in
theorem gL_law_X10_raised : GoodIn wsL_law (wsV RL 91 RX10 yX10_raised wsX10_raised) := goodIn_app (goodIn_of _ (by decide +kernel)) ggL_law_X10_raised
set_option maxRecDepth 20000 in
theorem ggL_law_X11_raised_p0 : GoodIn wsL_law (wsX11_raised.take 40) := goodIn_r _ [857, 569, 551, 552, 553, 5, 554, 128, 766, 767, 768, 769, 770, 771, 772, 773, 774, 775, 776, 777, 778, 779, 693, 555, 556, 557, 558, 133, 134, 135, 559, 780, 781, 782, 783, 784, 785, 786, 694, 695] (by decide +kernel) (by decide +kernel)
set_option maxRecDepth 20000 in
theorem ggL_law_X11_raised_p1 : GoodIn wsL_law ((wsX11_raised.drop 40).take 40) := goodIn_r _ [696, 697, 698, 136, 649, 650, 651, 652, 653, 654, 655, 656, 657, 658, 659, 660, 661, 137, 662, 663, 664, 665, 666, 139, 560, 561, 562, 563, 564, 565, 566, 567, 568, 667, 668, 669, 670, 671, 672, 673] (by decide +kernel) (by decide +kernel)
set_option maxRecDepth 20000 in
theorem ggL_law_X11_raised_p2 : GoodIn wsL_law ((wsX11_raised.drop 40).drop 40) := goodIn_r _ [674, 1043, 1044, 1045, 1046, 1047, 1048, 1049, 1050, 1051, 1052, 1053, 1054, 1055, 1056, 1057, 1058, 1059, 1060, 1061, 1062, 1063, 1064, 1065, 1066, 1067, 1068, 1069, 1070, 1071, 1072, 1073, 1074, 1075, 1076, 1077, 1078, 1079, 1080] (by decide +kernel) (by decide +kernel)
theorem ggL_law_X11_raised : GoodIn wsL_law wsX11_raised := goodIn_cut 40 ggL_law_X11_raised_p0 (goodIn_cut 40 ggL_law_X11_raised_p1 ggL_law_X11_raised_p2)
set_option maxRecDepth 20000 in
theorem gL_law_X11_raised : GoodIn wsL_law (wsV RL 94 RX11 yX11_raised wsX11_raised) := goodIn_app (goodIn_of _ (by decide +kernel)) ggL_law_X11_raised
set_option maxRecDepth 20000 in
theorem ggL_law_X10_mean_p0 : GoodIn wsL_law (wsX10_mean.take 40) := goodIn_r _ [861, 862, 29, 16, 164, 166, 543, 544, 545, 2, 546, 582, 583, 584, 28, 585, 99, 586, 101, 587, 588, 102, 103, 110, 589, 590, 325, 326, 43, 327, 53, 54, 55, 56, 57, 58, 59, 63, 186, 187] (by decide +kernel) (by decide +kernel)
set_option maxRecDepth 20000 in
theorem ggL_law_X10_mean_p1 : GoodIn wsL_law ((wsX10_mean.drop 40).take 40) := goodIn_r _ [188, 180, 181, 182, 189, 190, 191, 192, 328, 329, 330, 62, 331, 68, 69, 70, 72, 591, 493, 494, 15, 495, 47, 46, 592, 863, 864, 865, 866, 867, 868, 869, 870, 597, 599, 600, 601, 602, 108, 603] (by decide +kernel) (by decide +kernel)
set_option maxRecDepth 20000 in
theorem ggL_law_X10_mean_p2 : GoodIn wsL_law (((wsX10_mean.drop 40).drop 40).take 40) := goodIn_r _ [604, 605, 606, 607, 598, 608, 609, 610, 611, 612, 613, 614, 615, 381, 616, 433, 617, 618, 184, 185, 619, 620, 434, 621, 622, 623, 624, 436, 445, 437, 625, 626, 627, 628, 447, 449, 451, 629, 630, 631] (by decide +kernel) (by decide +kernel)
set_option maxRecDepth 20000 in
theorem ggL_law_X10_mean_p3 : GoodIn wsL_law ((((wsX10_mean.drop 40).drop 40).drop 40).take 40) := goodIn_r _ [107, 632, 114, 115, 116, 117, 633, 634, 635, 636, 637, 638, 639, 640, 641, 642, 643, 644, 871, 872, 873, 684, 685, 686, 687, 874, 718, 719, 720, 721, 875, 876, 877, 878, 879, 880, 881, 882, 883, 1036] (by decide +kernel) (by decide +kernel)
set_option maxRecDepth 20000 in
theorem ggL_law_X10_mean_p4 : GoodIn wsL_law ((((wsX10_mean.drop 40).drop 40).drop 40).drop 40) := goodIn_r _ [1037, 1038, 1039, 1040, 1041, 1042, 1081, 1082, 1083, 1084, 1085, 1086, 1087, 1112, 1113, 1114, 1115, 1116, 1117, 1118, 1119, 1103, 1104, 1105, 1106, 1107, 1108, 1109, 1120, 1121, 1122, 1123, 1124, 1125, 1126, 1127, 1128, 1129, 1130, 1131, 1132, 1133, 1134, 1135, 1136, 1137, 1138, 1139] (by decide +kernel) (by decide +kernel)
theorem ggL_law_X10_mean : GoodIn wsL_law wsX10_mean := goodIn_cut 40 ggL_law_X10_mean_p0 (goodIn_cut 40 ggL_law_X10_mean_p1 (goodIn_cut 40 ggL_law_X10_mean_p2 (goodIn_cut 40 ggL_law_X10_mean_p3 ggL_law_X10_mean_p4)))
set_option maxRecDepth 20000 in
theorem gL_law_X10_mean : GoodIn wsL_law (wsV RL 95 RX10 yX10_mean wsX10_mean) := goodIn_app (goodIn_of _ (by decide +kernel)) ggL_law_X10_mean
set_option maxRecDepth 20000 in
theorem ggL_law_X11_mean_p0 : GoodIn wsL_law (wsX11_mean.take 40) := goodIn_r _ [887, 888, 693, 698, 157, 158, 5, 159, 551, 552, 553, 554, 128, 772, 773, 774, 775, 555, 556, 557, 558, 133, 134, 135, 559, 780, 781, 782, 783, 694, 695, 696, 697, 136, 649, 650, 651, 652, 653, 654] (by decide +kernel) (by decide +kernel)
set_option maxRecDepth 20000 in
theorem ggL_law_X11_mean_p1 : GoodIn wsL_law ((wsX11_mean.drop 40).take 40) := goodIn_r _ [655, 656, 657, 658, 659, 660, 661, 137, 662, 663, 664, 665, 666, 139, 560, 561, 562, 563, 564, 565, 566, 567, 568, 569, 667, 668, 669, 670, 671, 672, 673, 674, 889, 890, 891, 892, 893, 894, 895, 1043] (by decide +kernel) (by decide +kernel)
set_option maxRecDepth 20000 in
theorem ggL_law_X11_mean_p2 : GoodIn wsL_law ((wsX11_mean.drop 40).drop 40) := goodIn_r _ [1044, 1045, 1046, 1047, 1048, 1049, 1050, 1051, 1052, 1053, 1054, 1055, 1056, 1057, 1058, 1059, 1060, 1061, 1062, 1063, 1064, 1065, 1066, 1067, 1068, 1069, 1070, 1071, 1072, 1073, 1074, 1075, 1076, 1077, 1078, 1079, 1080] (by decide +kernel) (by decide +kernel)
theorem ggL_law_X11_mean : GoodIn wsL_law wsX11_mean := goodIn_cut 40 ggL_law_X11_mean_p0 (goodIn_cut 40 ggL_law_X11_mean_p1 ggL_law_X11_mean_p2)
set_option maxRecDepth 20000 in
theorem gL_law_X11_mean : GoodIn wsL_law (wsV RL 99 RX11 yX11_mean wsX11_mean) := goodIn_app (goodIn_of _ (by decide +kernel)) ggL_law_X11_mean
