set_option maxRecDepth 20000 in
theorem inr_28 : ∀ w ∈ wsL_law_r28, w ∈ lw_tbl := mem_p [1190, 1191, 1193, 39, 1194, 971, 1195, 1197, 40, 1198, 1199, 1201, 41, 1202, 973, 1203, 1205, 42, 1206, 1207, 1209, 43, 1210, 1211] (by decide +kernel)
set_option maxRecDepth 20000 in
theorem inr_29 : ∀ w ∈ wsL_law_r29, w ∈ lw_tbl := mem_p [1213, 44, 1214, 746, 747, 748, 749, 329, 750, 751, 752, 753, 754, 756, 13, 757, 758, 1215, 1216, 1217, 1218, 976, 1219, 1221] (by decide +kernel)
set_option maxRecDepth 20000 in
theorem inr_30 : ∀ w ∈ wsL_law_r30, w ∈ lw_tbl := mem_p [45, 1222, 977, 759, 760, 761, 762, 204, 763, 764, 765, 766, 1223, 1224, 1225, 1226, 767, 768, 769, 770, 202, 771, 772, 773] (by decide +kernel)
set_option maxRecDepth 20000 in
theorem inr_31 : ∀ w ∈ wsL_law_r31, w ∈ lw_tbl := mem_p [774, 164, 775, 776, 777, 778, 779, 780, 781, 1227, 1228, 1229, 1230, 1231, 1232, 1233, 782, 783, 784, 785, 786, 787, 788, 789] (by decide +kernel)
set_option maxRecDepth 20000 in
theorem inr_32 : ∀ w ∈ wsL_law_r32, w ∈ lw_tbl := mem_p [149, 153, 790, 792, 14, 793, 124, 794, 796, 15, 797, 798, 799, 78, 800, 801, 802, 803, 1234, 1235, 1236, 1237, 1238, 1240] (by decide +kernel)
set_option maxRecDepth 20000 in
theorem inr_33 : ∀ w ∈ wsL_law_r33, w ∈ lw_tbl := mem_p [46, 1241, 979, 980, 1242, 1244, 47, 1245, 1246, 1248, 48, 1249, 1250, 1252, 49, 1253, 1254, 1255, 1256, 804, 805, 806, 807, 326] (by decide +kernel)
set_option maxRecDepth 20000 in
theorem inr_34 : ∀ w ∈ wsL_law_r34, w ∈ lw_tbl := mem_p [808, 809, 810, 811, 1257, 1258, 1259, 1260, 812, 813, 814, 815, 816, 817, 818, 819, 1261, 1262, 1263, 1264, 820, 821, 822, 823] (by decide +kernel)
set_option maxRecDepth 20000 in
theorem inr_35 : ∀ w ∈ wsL_law_r35, w ∈ lw_tbl := mem_p [824, 825, 826, 827, 828, 829, 830, 628, 1265, 1266, 1267, 1268, 831, 832, 833, 834, 1269, 1270, 1271, 1272, 835, 836, 837, 838] (by decide +kernel)
set_option maxRecDepth 20000 in
theorem inr_36 : ∀ w ∈ wsL_law_r36, w ∈ lw_tbl := mem_p [322, 839, 1273, 1274, 1275, 1276, 840, 841, 842, 843, 844, 845, 846, 847, 1277, 1278, 1279, 1280, 848, 849, 850, 851, 852, 853] (by decide +kernel)
set_option maxRecDepth 20000 in
theorem inr_37 : ∀ w ∈ wsL_law_r37, w ∈ lw_tbl := mem_p [854, 855, 856, 857, 859, 16, 860, 862, 863, 864, 865, 866, 868, 17, 869, 158, 870, 871, 872, 873, 1281, 1282, 1283, 1284] (by decide +kernel)
set_option maxRecDepth 20000 in
theorem inr_38 : ∀ w ∈ wsL_law_r38, w ∈ lw_tbl := mem_p [1285, 1286, 1288, 50, 1289, 1290, 1291, 1292, 874, 875, 876, 877, 324, 878, 879, 880, 881, 1293, 1294, 1295, 1296, 882, 883, 884] (by decide +kernel)
set_option maxRecDepth 20000 in
theorem inr_39 : ∀ w ∈ wsL_law_r39, w ∈ lw_tbl := mem_p [885, 886, 887, 888, 889, 890, 891, 892, 893, 631, 894, 896, 18, 897, 629, 634, 898, 899, 900, 901, 903, 904, 905, 906] (by decide +kernel)
set_option maxRecDepth 20000 in
theorem inr_40 : ∀ w ∈ wsL_law_r40, w ∈ lw_tbl := mem_p [908, 910, 19, 911, 1297, 1298, 1299, 1300, 984, 985, 986, 987, 1301, 1303, 51, 1304, 1305, 1307, 52, 1308, 1309, 1311, 53, 1312] (by decide +kernel)
set_option maxRecDepth 20000 in
theorem inr_41 : ∀ w ∈ wsL_law_r41, w ∈ lw_tbl := mem_p [1313, 1315, 54, 1316, 1317, 1318, 1319, 1320, 1322, 55, 1323, 1324, 1326, 56, 1327, 1328, 1330, 57, 1331, 1332, 1334, 58, 1335, 912] (by decide +kernel)
set_option maxRecDepth 20000 in
theorem inr_42 : ∀ w ∈ wsL_law_r42, w ∈ lw_tbl := mem_p [913, 914, 915, 354, 352, 1336, 1337, 1338, 1339, 916, 917, 918, 919, 920, 921, 922, 923, 924, 1340, 1341, 1342, 1343, 925, 926] (by decide +kernel)
set_option maxRecDepth 20000 in
theorem inr_43 : ∀ w ∈ wsL_law_r43, w ∈ lw_tbl := mem_p [927, 928, 929, 930, 931, 932, 935, 936, 934, 1344, 1345, 1346, 1347, 953, 937, 938, 939, 940, 1348, 1349, 1350, 1351, 941, 942] (by decide +kernel)
set_option maxRecDepth 20000 in
theorem inr_44 : ∀ w ∈ wsL_law_r44, w ∈ lw_tbl := mem_p [943, 944, 1352, 1353, 1354, 1355] (by decide +kernel)
set_option maxRecDepth 20000 in
theorem inX0 : ∀ w ∈ wsX00, w ∈ lw_tbl := mem_p [643, 645, 647, 649, 651, 653, 655, 657, 659] (by decide +kernel)
set_option maxRecDepth 20000 in
theorem inX1 : ∀ w ∈ wsX10, w ∈ lw_tbl := mem_p [277, 278, 279, 280, 265, 267, 269, 271, 273, 275] (by decide +kernel)
set_option maxRecDepth 20000 in
theorem inX3 : ∀ w ∈ wsX30, w ∈ lw_tbl := mem_p [171, 173, 175, 177, 179, 181, 183, 185] (by decide +kernel)
set_option maxRecDepth 20000 in
theorem inX4 : ∀ w ∈ wsX40, w ∈ lw_tbl := mem_p [239, 241, 243, 245, 237] (by decide +kernel)
set_option maxRecDepth 20000 in
theorem inX5 : ∀ w ∈ wsX50, w ∈ lw_tbl := mem_p [308, 310, 312, 314] (by decide +kernel)
set_option maxRecDepth 20000 in
theorem inX6 : ∀ w ∈ wsX60, w ∈ lw_tbl := mem_p [355, 357] (by decide +kernel)
set_option maxRecDepth 20000 in
theorem inX7 : ∀ w ∈ wsX70, w ∈ lw_tbl := mem_p [330, 332, 334, 336, 338, 340, 342] (by decide +kernel)
set_option maxRecDepth 20000 in
theorem inX8 : ∀ w ∈ wsX80, w ∈ lw_tbl := mem_p [127, 129, 131, 133, 135, 137, 139] (by decide +kernel)
set_option maxRecDepth 20000 in
theorem inX9 : ∀ w ∈ wsX90, w ∈ lw_tbl := mem_p [205, 207, 209, 211, 213, 215, 217] (by decide +kernel)
set_option maxRecDepth 20000 in
theorem inX10 : ∀ w ∈ wsX100, w ∈ lw_tbl := mem_p [367, 369, 371, 373, 375, 377, 379] (by decide +kernel)
set_option maxRecDepth 20000 in
theorem inX11 : ∀ w ∈ wsX110, w ∈ lw_tbl := mem_p [988, 990, 992, 994, 996, 998, 1000, 1002, 1004, 1006, 1008, 1010, 1012, 1014, 1016, 1018, 1020, 1022, 1024, 1026, 1028, 1030, 1032, 1034, 1036, 1038, 1040, 1042, 1044, 1046, 1048, 1050, 1052, 1054, 1056, 1058, 1060, 1062] (by decide +kernel)
theorem wsL_law_in : ∀ w ∈ wsL_law, w ∈ lw_tbl := mem_a (mem_a (mem_a (mem_a (mem_a (mem_a (mem_a (mem_a (mem_a (mem_a (mem_a (mem_a ((mem_a inr_1 (mem_a inr_2 (mem_a inr_3 (mem_a inr_4 (mem_a inr_5 (mem_a inr_6 (mem_a inr_7 (mem_a inr_8 (mem_a inr_9 (mem_a inr_10 (mem_a inr_11 (mem_a inr_12 (mem_a inr_13 (mem_a inr_14 (mem_a inr_15 (mem_a inr_16 (mem_a inr_17 (mem_a inr_18 (mem_a inr_19 (mem_a inr_20 (mem_a inr_21 (mem_a inr_22 (mem_a inr_23 (mem_a inr_24 (mem_a inr_25 (mem_a inr_26 (mem_a inr_27 (mem_a inr_28 (mem_a inr_29 (mem_a inr_30 (mem_a inr_31 (mem_a inr_32 (mem_a inr_33 (mem_a inr_34 (mem_a inr_35 (mem_a inr_36 (mem_a inr_37 (mem_a inr_38 (mem_a inr_39 (mem_a inr_40 (mem_a inr_41 (mem_a inr_42 (mem_a inr_43 (inr_44))))))))))))))))))))))))))))))))))))))))))))) inX10) inX11) inX9) inX4) inX1) inX7) inX6) inX3) inX8) inX5) inX0) (fun w h => (List.not_mem_nil h).elim)
theorem inlX0 : ∀ w ∈ wsX00, w ∈ wsL_law := fun _ h => List.mem_append_left _ (List.mem_append_right _ h)
theorem inlX1 : ∀ w ∈ wsX10, w ∈ wsL_law := fun _ h => List.mem_append_left _ (List.mem_append_left _ (List.mem_append_left _ (List.mem_append_left _ (List.mem_append_left _ (List.mem_append_left _ (List.mem_append_left _ (List.mem_append_right _ h)))))))
theorem inlX3 : ∀ w ∈ wsX30, w ∈ wsL_law := fun _ h => List.mem_append_left _ (List.mem_append_left _ (List.mem_append_left _ (List.mem_append_left _ (List.mem_append_right _ h))))
theorem inlX4 : ∀ w ∈ wsX40, w ∈ wsL_law := fun _ h => List.mem_append_left _ (List.mem_append_left _ (List.mem_append_left _ (List.mem_append_left _ (List.mem_append_left _ (List.mem_append_left _ (List.mem_append_left _ (List.mem_append_left _ (List.mem_append_right _ h))))))))
theorem inlX5 : ∀ w ∈ wsX50, w ∈ wsL_law := fun _ h => List.mem_append_left _ (List.mem_append_left _ (List.mem_append_right _ h))
theorem inlX6 : ∀ w ∈ wsX60, w ∈ wsL_law := fun _ h => List.mem_append_left _ (List.mem_append_left _ (List.mem_append_left _ (List.mem_append_left _ (List.mem_append_left _ (List.mem_append_right _ h)))))
theorem inlX7 : ∀ w ∈ wsX70, w ∈ wsL_law := fun _ h => List.mem_append_left _ (List.mem_append_left _ (List.mem_append_left _ (List.mem_append_left _ (List.mem_append_left _ (List.mem_append_left _ (List.mem_append_right _ h))))))
theorem inlX8 : ∀ w ∈ wsX80, w ∈ wsL_law := fun _ h => List.mem_append_left _ (List.mem_append_left _ (List.mem_append_left _ (List.mem_append_right _ h)))
theorem inlX9 : ∀ w ∈ wsX90, w ∈ wsL_law := fun _ h => List.mem_append_left _ (List.mem_append_left _ (List.mem_append_left _ (List.mem_append_left _ (List.mem_append_left _ (List.mem_append_left _ (List.mem_append_left _ (List.mem_append_left _ (List.mem_append_left _ (List.mem_append_right _ h)))))))))
theorem inlX10 : ∀ w ∈ wsX100, w ∈ wsL_law := fun _ h => List.mem_append_left _ (List.mem_append_left _ (List.mem_append_left _ (List.mem_append_left _ (List.mem_append_left _ (List.mem_append_left _ (List.mem_append_left _ (List.mem_append_left _ (List.mem_append_left _ (List.mem_append_left _ (List.mem_append_left _ (List.mem_append_right _ h)))))))))))
theorem inlX11 : ∀ w ∈ wsX110, w ∈ wsL_law := fun _ h => List.mem_append_left _ (List.mem_append_left _ (List.mem_append_left _ (List.mem_append_left _ (List.mem_append_left _ (List.mem_append_left _ (List.mem_append_left _ (List.mem_append_left _ (List.mem_append_left _ (List.mem_append_left _ (List.mem_append_right _ h))))))))))
