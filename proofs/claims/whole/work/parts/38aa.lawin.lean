set_option maxRecDepth 20000 in
theorem inr_28 : ∀ w ∈ wsL_law_r28, w ∈ lw_tbl := mem_p [1188, 1189, 1191, 39, 1192, 969, 1193, 1195, 40, 1196, 1197, 1199, 41, 1200, 971, 1201, 1203, 42, 1204, 1205, 1207, 43, 1208, 1209] (by decide +kernel)
set_option maxRecDepth 20000 in
theorem inr_29 : ∀ w ∈ wsL_law_r29, w ∈ lw_tbl := mem_p [1211, 44, 1212, 746, 747, 748, 749, 329, 750, 751, 752, 753, 754, 756, 13, 757, 758, 1213, 1214, 1215, 1216, 974, 1217, 1219] (by decide +kernel)
set_option maxRecDepth 20000 in
theorem inr_30 : ∀ w ∈ wsL_law_r30, w ∈ lw_tbl := mem_p [45, 1220, 975, 759, 760, 761, 762, 204, 763, 764, 765, 766, 1221, 1222, 1223, 1224, 767, 768, 769, 770, 202, 771, 772, 773] (by decide +kernel)
set_option maxRecDepth 20000 in
theorem inr_31 : ∀ w ∈ wsL_law_r31, w ∈ lw_tbl := mem_p [774, 164, 775, 776, 777, 778, 779, 780, 781, 1225, 1226, 1227, 1228, 1229, 1230, 1231, 782, 783, 784, 785, 786, 787, 788, 789] (by decide +kernel)
set_option maxRecDepth 20000 in
theorem inr_32 : ∀ w ∈ wsL_law_r32, w ∈ lw_tbl := mem_p [149, 153, 790, 792, 14, 793, 124, 794, 796, 15, 797, 798, 799, 78, 800, 801, 802, 803, 1232, 1233, 1234, 1235, 1236, 1238] (by decide +kernel)
set_option maxRecDepth 20000 in
theorem inr_33 : ∀ w ∈ wsL_law_r33, w ∈ lw_tbl := mem_p [46, 1239, 977, 978, 1240, 1242, 47, 1243, 1244, 1246, 48, 1247, 1248, 1250, 49, 1251, 1252, 1253, 1254, 804, 805, 806, 807, 326] (by decide +kernel)
set_option maxRecDepth 20000 in
theorem inr_34 : ∀ w ∈ wsL_law_r34, w ∈ lw_tbl := mem_p [808, 809, 810, 811, 1255, 1256, 1257, 1258, 812, 813, 814, 815, 816, 817, 818, 819, 1259, 1260, 1261, 1262, 820, 821, 822, 823] (by decide +kernel)
set_option maxRecDepth 20000 in
theorem inr_35 : ∀ w ∈ wsL_law_r35, w ∈ lw_tbl := mem_p [824, 825, 826, 827, 828, 829, 830, 628, 1263, 1264, 1265, 1266, 831, 832, 833, 834, 1267, 1268, 1269, 1270, 835, 836, 837, 838] (by decide +kernel)
set_option maxRecDepth 20000 in
theorem inr_36 : ∀ w ∈ wsL_law_r36, w ∈ lw_tbl := mem_p [322, 839, 1271, 1272, 1273, 1274, 840, 841, 842, 843, 844, 845, 846, 847, 1275, 1276, 1277, 1278, 848, 849, 850, 851, 852, 853] (by decide +kernel)
set_option maxRecDepth 20000 in
theorem inr_37 : ∀ w ∈ wsL_law_r37, w ∈ lw_tbl := mem_p [854, 855, 856, 857, 859, 16, 860, 862, 863, 864, 865, 866, 868, 17, 869, 158, 870, 871, 872, 873, 1279, 1280, 1281, 1282] (by decide +kernel)
set_option maxRecDepth 20000 in
theorem inr_38 : ∀ w ∈ wsL_law_r38, w ∈ lw_tbl := mem_p [1283, 1284, 1286, 50, 1287, 1288, 1289, 1290, 874, 875, 876, 877, 324, 878, 879, 880, 881, 1291, 1292, 1293, 1294, 882, 883, 884] (by decide +kernel)
set_option maxRecDepth 20000 in
theorem inr_39 : ∀ w ∈ wsL_law_r39, w ∈ lw_tbl := mem_p [885, 886, 887, 888, 889, 890, 891, 892, 893, 631, 894, 896, 18, 897, 629, 634, 898, 899, 900, 901, 903, 904, 905, 906] (by decide +kernel)
set_option maxRecDepth 20000 in
theorem inr_40 : ∀ w ∈ wsL_law_r40, w ∈ lw_tbl := mem_p [908, 910, 19, 911, 1295, 1296, 1297, 1298, 982, 983, 984, 985, 1299, 1301, 51, 1302, 1303, 1305, 52, 1306, 1307, 1309, 53, 1310] (by decide +kernel)
set_option maxRecDepth 20000 in
theorem inr_41 : ∀ w ∈ wsL_law_r41, w ∈ lw_tbl := mem_p [1311, 1313, 54, 1314, 1315, 1316, 1317, 1318, 1320, 55, 1321, 1322, 1324, 56, 1325, 1326, 1328, 57, 1329, 1330, 1332, 58, 1333, 912] (by decide +kernel)
set_option maxRecDepth 20000 in
theorem inr_42 : ∀ w ∈ wsL_law_r42, w ∈ lw_tbl := mem_p [913, 914, 915, 354, 352, 1334, 1335, 1336, 1337, 916, 917, 918, 919, 920, 921, 922, 923, 924, 1338, 1339, 1340, 1341, 925, 926] (by decide +kernel)
set_option maxRecDepth 20000 in
theorem inr_43 : ∀ w ∈ wsL_law_r43, w ∈ lw_tbl := mem_p [927, 928, 929, 930, 931, 932, 934, 1342, 1343, 1344, 1345, 951, 935, 936, 937, 938, 1346, 1347, 1348, 1349, 939, 940, 941, 942] (by decide +kernel)
set_option maxRecDepth 20000 in
theorem inr_44 : ∀ w ∈ wsL_law_r44, w ∈ lw_tbl := mem_p [1350, 1351, 1352, 1353] (by decide +kernel)
set_option maxRecDepth 20000 in
theorem inX0 : ∀ w ∈ wsX00, w ∈ lw_tbl := mem_p [643, 645, 647, 649, 651, 653, 655, 657, 659] (by decide +kernel)
set_option maxRecDepth 20000 in
theorem inX1 : ∀ w ∈ wsX10, w ∈ lw_tbl := mem_p [277, 278, 279, 280, 265, 267, 269, 271, 273, 275] (by decide +kernel)
set_option maxRecDepth 20000 in
theorem inX3 : ∀ w ∈ wsX30, w ∈ lw_tbl := mem_p [171, 173, 175, 177, 179, 181, 183, 185] (by decide +kernel)
set_option maxRecDepth 20000 in
theorem inX4 : ∀ w ∈ wsX40, w ∈ lw_tbl := mem_p [239, 241, 243, 245, 237] (by decide +kernel)
set_option maxRecDepth 20000 in
theorem inX5 : ∀ w ∈ wsX50, w ∈ lw_tbl := mem_p [308, 310, 312, 314] (by decide +kernel)
set_option maxRecDepth 20000 in
theorem inX6 : ∀ w ∈ wsX60, w ∈ lw_tbl := mem_p [355, 357] (by decide +kernel)
set_option maxRecDepth 20000 in
theorem inX7 : ∀ w ∈ wsX70, w ∈ lw_tbl := mem_p [330, 332, 334, 336, 338, 340, 342] (by decide +kernel)
set_option maxRecDepth 20000 in
theorem inX8 : ∀ w ∈ wsX80, w ∈ lw_tbl := mem_p [127, 129, 131, 133, 135, 137, 139] (by decide +kernel)
set_option maxRecDepth 20000 in
theorem inX9 : ∀ w ∈ wsX90, w ∈ lw_tbl := mem_p [205, 207, 209, 211, 213, 215, 217] (by decide +kernel)
set_option maxRecDepth 20000 in
theorem inX10 : ∀ w ∈ wsX100, w ∈ lw_tbl := mem_p [367, 369, 371, 373, 375, 377, 379] (by decide +kernel)
set_option maxRecDepth 20000 in
theorem inX11 : ∀ w ∈ wsX110, w ∈ lw_tbl := mem_p [986, 988, 990, 992, 994, 996, 998, 1000, 1002, 1004, 1006, 1008, 1010, 1012, 1014, 1016, 1018, 1020, 1022, 1024, 1026, 1028, 1030, 1032, 1034, 1036, 1038, 1040, 1042, 1044, 1046, 1048, 1050, 1052, 1054, 1056, 1058, 1060] (by decide +kernel)
theorem wsL_law_in : ∀ w ∈ wsL_law, w ∈ lw_tbl := mem_a (mem_a (mem_a (mem_a (mem_a (mem_a (mem_a (mem_a (mem_a (mem_a (mem_a (mem_a ((mem_a inr_1 (mem_a inr_2 (mem_a inr_3 (mem_a inr_4 (mem_a inr_5 (mem_a inr_6 (mem_a inr_7 (mem_a inr_8 (mem_a inr_9 (mem_a inr_10 (mem_a inr_11 (mem_a inr_12 (mem_a inr_13 (mem_a inr_14 (mem_a inr_15 (mem_a inr_16 (mem_a inr_17 (mem_a inr_18 (mem_a inr_19 (mem_a inr_20 (mem_a inr_21 (mem_a inr_22 (mem_a inr_23 (mem_a inr_24 (mem_a inr_25 (mem_a inr_26 (mem_a inr_27 (mem_a inr_28 (mem_a inr_29 (mem_a inr_30 (mem_a inr_31 (mem_a inr_32 (mem_a inr_33 (mem_a inr_34 (mem_a inr_35 (mem_a inr_36 (mem_a inr_37 (mem_a inr_38 (mem_a inr_39 (mem_a inr_40 (mem_a inr_41 (mem_a inr_42 (mem_a inr_43 (inr_44))))))))))))))))))))))))))))))))))))))))))))) inX10) inX11) inX9) inX4) inX1) inX7) inX6) inX3) inX8) inX5) inX0) (fun w h => (List.not_mem_nil h).elim)
theorem inlX0 : ∀ w ∈ wsX00, w ∈ wsL_law := fun _ h => List.mem_append_left _ (List.mem_append_right _ h)
theorem inlX1 : ∀ w ∈ wsX10, w ∈ wsL_law := fun _ h => List.mem_append_left _ (List.mem_append_left _ (List.mem_append_left _ (List.mem_append_left _ (List.mem_append_left _ (List.mem_append_left _ (List.mem_append_left _ (List.mem_append_right _ h)))))))
theorem inlX3 : ∀ w ∈ wsX30, w ∈ wsL_law := fun _ h => List.mem_append_left _ (List.mem_append_left _ (List.mem_append_left _ (List.mem_append_left _ (List.mem_append_right _ h))))
theorem inlX4 : ∀ w ∈ wsX40, w ∈ wsL_law := fun _ h => List.mem_append_left _ (List.mem_append_left _ (List.mem_append_left _ (List.mem_append_left _ (List.mem_append_left _ (List.mem_append_left _ (List.mem_append_left _ (List.mem_append_left _ (List.mem_append_right _ h))))))))
theorem inlX5 : ∀ w ∈ wsX50, w ∈ wsL_law := fun _ h => List.mem_append_left _ (List.mem_append_left _ (List.mem_append_right _ h))
theorem inlX6 : ∀ w ∈ wsX60, w ∈ wsL_law := fun _ h => List.mem_append_left _ (List.mem_append_left _ (List.mem_append_left _ (List.mem_append_left _ (List.mem_append_left _ (List.mem_append_right _ h)))))
theorem inlX7 : ∀ w ∈ wsX70, w ∈ wsL_law := fun _ h => List.mem_append_left _ (List.mem_append_left _ (List.mem_append_left _ (List.mem_append_left _ (List.mem_append_left _ (List.mem_append_left _ (List.mem_append_right _ h))))))
theorem inlX8 : ∀ w ∈ wsX80, w ∈ wsL_law := fun _ h => List.mem_append_left _ (List.mem_append_left _ (List.mem_append_left _ (List.mem_append_right _ h)))
theorem inlX9 : ∀ w ∈ wsX90, w ∈ wsL_law := fun _ h => List.mem_append_left _ (List.mem_append_left _ (List.mem_append_left _ (List.mem_append_left _ (List.mem_append_left _ (List.mem_append_left _ (List.mem_append_left _ (List.mem_append_left _ (List.mem_append_left _ (List.mem_append_right _ h)))))))))
theorem inlX10 : ∀ w ∈ wsX100, w ∈ wsL_law := fun _ h => List.mem_append_left _ (List.mem_append_left _ (List.mem_append_left _ (List.mem_append_left _ (List.mem_append_left _ (List.mem_append_left _ (List.mem_append_left _ (List.mem_append_left _ (List.mem_append_left _ (List.mem_append_left _ (List.mem_append_left _ (List.mem_append_right _ h)))))))))))
theorem inlX11 : ∀ w ∈ wsX110, w ∈ wsL_law := fun _ h => List.mem_append_left _ (List.mem_append_left _ (List.mem_append_left _ (List.mem_append_left _ (List.mem_append_left _ (List.mem_append_left _ (List.mem_append_left _ (List.mem_append_left _ (List.mem_append_left _ (List.mem_append_left _ (List.mem_append_right _ h))))))))))
