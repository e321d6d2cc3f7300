/-! ===== by program: the words of the law stand among the tables' words, by place ===== -/
theorem mem_p {big ws : List Cond} (ps : List Nat) (h : ws = ps.filterMap (fun i => big[i]?)) : ∀ w ∈ ws, w ∈ big := by
  intro w hw
  rw [h] at hw
  obtain ⟨i, -, hi⟩ := List.mem_filterMap.mp hw
  exact List.mem_of_getElem? hi
theorem mem_a {big a b : List Cond} (ha : ∀ w ∈ a, w ∈ big) (hb : ∀ w ∈ b, w ∈ big) : ∀ w ∈ a ++ b, w ∈ big := fun w h => (List.mem_append.mp h).elim (ha w) (hb w)
set_option maxRecDepth 20000 in
theorem inr_1 : ∀ w ∈ wsL_law_r1, w ∈ lw_tbl := mem_p [79, 80, 60, 943, 944, 70, 1354, 81, 82, 83, 84, 85, 86, 87, 88, 61, 360, 361, 220, 221, 65, 362, 248, 249] (by decide +kernel)
set_option maxRecDepth 20000 in
theorem inr_2 : ∀ w ∈ wsL_law_r2, w ∈ lw_tbl := mem_p [66, 363, 282, 283, 67, 364, 345, 346, 69, 365, 366, 90, 91, 92, 142, 190, 192, 93, 94, 62, 195, 188, 198, 199] (by decide +kernel)
set_option maxRecDepth 20000 in
theorem inr_3 : ∀ w ∈ wsL_law_r3, w ∈ lw_tbl := mem_p [201, 203, 96, 97, 98, 143, 147, 151, 155, 159, 162, 165, 99, 100, 63, 168, 101, 102, 103, 104, 105, 109, 113, 117] (by decide +kernel)
set_option maxRecDepth 20000 in
theorem inr_4 : ∀ w ∈ wsL_law_r4, w ∈ lw_tbl := mem_p [119, 123, 125, 223, 224, 229, 231, 226, 64, 227, 228, 233, 234, 235, 236, 251, 252, 254, 256, 258, 260, 263, 264, 285] (by decide +kernel)
set_option maxRecDepth 20000 in
theorem inr_5 : ∀ w ∈ wsL_law_r5, w ∈ lw_tbl := mem_p [286, 287, 288, 319, 290, 320, 321, 323, 325, 291, 292, 68, 327, 317, 328, 294, 295, 296, 297, 299, 302, 305, 318, 348] (by decide +kernel)
set_option maxRecDepth 20000 in
theorem inr_6 : ∀ w ∈ wsL_law_r6, w ∈ lw_tbl := mem_p [349, 350, 351, 353, 945, 946, 947, 948, 949, 950, 961, 962, 963, 964, 965, 966, 967, 970, 1063, 976, 979, 980, 981, 382] (by decide +kernel)
set_option maxRecDepth 20000 in
theorem inr_7 : ∀ w ∈ wsL_law_r7, w ∈ lw_tbl := mem_p [383, 384, 385, 194, 386, 387, 388, 389, 1064, 1065, 1066, 1067, 1071, 1068, 1069, 1070, 390, 391, 392, 393, 197, 232, 146, 394] (by decide +kernel)
set_option maxRecDepth 20000 in
theorem inr_8 : ∀ w ∈ wsL_law_r8, w ∈ lw_tbl := mem_p [395, 396, 397, 145, 398, 399, 401, 402, 403, 191, 193, 413, 408, 71, 409, 414, 415, 416, 405, 406, 407, 410, 412, 411] (by decide +kernel)
set_option maxRecDepth 20000 in
theorem inr_9 : ∀ w ∈ wsL_law_r9, w ∈ lw_tbl := mem_p [72, 417, 418, 419, 420, 120, 421, 423, 0, 424, 156, 425, 426, 428, 429, 430, 431, 433, 1, 434, 436, 437, 439, 440] (by decide +kernel)
set_option maxRecDepth 20000 in
theorem inr_10 : ∀ w ∈ wsL_law_r10, w ∈ lw_tbl := mem_p [441, 442, 443, 444, 73, 445, 1358, 446, 447, 448, 449, 450, 1359, 452, 453, 454, 455, 456, 457, 458, 459, 460, 461, 74] (by decide +kernel)
set_option maxRecDepth 20000 in
theorem inr_11 : ∀ w ∈ wsL_law_r11, w ∈ lw_tbl := mem_p [462, 463, 464, 465, 466, 468, 469, 75, 470, 471, 472, 76, 473, 474, 475, 476, 477, 478, 479, 480, 481, 482, 483, 484] (by decide +kernel)
set_option maxRecDepth 20000 in
theorem inr_12 : ∀ w ∈ wsL_law_r12, w ∈ lw_tbl := mem_p [486, 488, 490, 492, 493, 491, 495, 496, 1355, 1356, 1357, 494, 497, 499, 500, 498, 502, 501, 503, 504, 506, 507, 508, 509] (by decide +kernel)
set_option maxRecDepth 20000 in
theorem inr_13 : ∀ w ∈ wsL_law_r13, w ∈ lw_tbl := mem_p [510, 512, 513, 514, 515, 516, 517, 518, 106, 519, 110, 114, 520, 521, 523, 525, 527, 2, 528, 530, 531, 148, 152, 533] (by decide +kernel)
set_option maxRecDepth 20000 in
theorem inr_14 : ∀ w ∈ wsL_law_r14, w ∈ lw_tbl := mem_p [534, 536, 537, 538, 540, 541, 542, 543, 544, 546, 547, 548, 549, 550, 551, 552, 554, 555, 556, 557, 1072, 1073, 1074, 1075] (by decide +kernel)
set_option maxRecDepth 20000 in
theorem inr_15 : ∀ w ∈ wsL_law_r15, w ∈ lw_tbl := mem_p [957, 958, 959, 960, 955, 953, 954, 1076, 1078, 20, 1079, 956, 1080, 1082, 21, 1083, 1084, 1086, 22, 1087, 1088, 1090, 23, 1091] (by decide +kernel)
set_option maxRecDepth 20000 in
theorem inr_16 : ∀ w ∈ wsL_law_r16, w ∈ lw_tbl := mem_p [1093, 1095, 24, 1096, 1097, 1098, 1099, 1101, 25, 1102, 1103, 1105, 26, 1106, 560, 561, 562, 563, 200, 614, 615, 77, 564, 565] (by decide +kernel)
set_option maxRecDepth 20000 in
theorem inr_17 : ∀ w ∈ wsL_law_r17, w ∈ lw_tbl := mem_p [566, 567, 568, 569, 570, 571, 572, 573, 575, 576, 577, 578, 580, 3, 581, 582, 584, 4, 590, 591, 592, 593, 595, 6] (by decide +kernel)
set_option maxRecDepth 20000 in
theorem inr_18 : ∀ w ∈ wsL_law_r18, w ∈ lw_tbl := mem_p [596, 585, 586, 588, 5, 589, 597, 598, 599, 601, 602, 604, 605, 606, 608, 609, 610, 611, 612, 613, 616, 617, 618, 619] (by decide +kernel)
set_option maxRecDepth 20000 in
theorem inr_19 : ∀ w ∈ wsL_law_r19, w ∈ lw_tbl := mem_p [627, 630, 633, 262, 636, 638, 255, 620, 621, 622, 623, 624, 626, 639, 257, 640, 259, 641, 261, 642, 662, 663, 664, 665] (by decide +kernel)
set_option maxRecDepth 20000 in
theorem inr_20 : ∀ w ∈ wsL_law_r20, w ∈ lw_tbl := mem_p [1110, 1111, 1112, 1113, 952, 1114, 1116, 27, 1117, 1119, 1121, 28, 1122, 1123, 1125, 29, 1131, 1133, 31, 1134, 1126, 1127, 1129, 30] (by decide +kernel)
set_option maxRecDepth 20000 in
theorem inr_21 : ∀ w ∈ wsL_law_r21, w ∈ lw_tbl := mem_p [1130, 1136, 1138, 32, 1139, 666, 667, 668, 669, 632, 635, 637, 670, 671, 672, 673, 1141, 1142, 1143, 1144, 1145, 1147, 33, 1148] (by decide +kernel)
set_option maxRecDepth 20000 in
theorem inr_22 : ∀ w ∈ wsL_law_r22, w ∈ lw_tbl := mem_p [674, 675, 676, 677, 167, 678, 680, 7, 681, 1149, 1150, 1151, 1152, 1153, 1155, 34, 1156, 682, 683, 684, 685, 170, 107, 161] (by decide +kernel)
set_option maxRecDepth 20000 in
theorem inr_23 : ∀ w ∈ wsL_law_r23, w ∈ lw_tbl := mem_p [163, 112, 115, 1157, 1158, 1159, 1160, 686, 687, 688, 689, 150, 154, 157, 121, 690, 692, 8, 693, 1161, 1162, 1163, 1164, 1165] (by decide +kernel)
set_option maxRecDepth 20000 in
theorem inr_24 : ∀ w ∈ wsL_law_r24, w ∈ lw_tbl := mem_p [1167, 35, 1168, 1169, 1171, 36, 1172, 968, 1173, 1175, 37, 1176, 972, 1177, 1179, 38, 1180, 973, 694, 695, 696, 697, 1181, 1182] (by decide +kernel)
set_option maxRecDepth 20000 in
theorem inr_25 : ∀ w ∈ wsL_law_r25, w ∈ lw_tbl := mem_p [1183, 1184, 698, 699, 700, 701, 702, 703, 704, 705, 196, 144, 166, 169, 706, 707, 708, 709, 710, 711, 712, 126, 111, 713] (by decide +kernel)
set_option maxRecDepth 20000 in
theorem inr_26 : ∀ w ∈ wsL_law_r26, w ∈ lw_tbl := mem_p [715, 9, 716, 122, 301, 108, 160, 307, 298, 116, 304, 745, 118, 717, 718, 719, 720, 737, 729, 306, 300, 721, 723, 10] (by decide +kernel)
set_option maxRecDepth 20000 in
theorem inr_27 : ∀ w ∈ wsL_law_r27, w ∈ lw_tbl := mem_p [724, 725, 727, 11, 728, 730, 731, 732, 733, 734, 735, 736, 303, 738, 740, 12, 741, 742, 743, 71, 744, 1185, 1186, 1187] (by decide +kernel)
