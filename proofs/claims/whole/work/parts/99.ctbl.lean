/-! PART 99b: the law's words are words of the tables -/
theorem zinb (ws : List Cond) (ps : List Nat) (hp : ws = ps.filterMap (fun i => lw_tbl[i]?)) : ∀ w ∈ ws, w ∈ lw_tbl := by
  intro w hw
  rw [hp] at hw
  obtain ⟨i, -, hi⟩ := List.mem_filterMap.mp hw
  exact List.mem_of_getElem? hi
theorem zap {a b : List Cond} (ha : ∀ w ∈ a, w ∈ lw_tbl) (hb : ∀ w ∈ b, w ∈ lw_tbl) : ∀ w ∈ a ++ b, w ∈ lw_tbl := List.forall_mem_append.mpr ⟨ha, hb⟩
set_option maxRecDepth 20000 in
theorem wl_0 : ∀ w ∈ wsL_law0_r1, w ∈ lw_tbl := zinb _ [70, 71, 41, 1063, 1064, 47, 1204, 1435, 72, 73, 74, 75, 76, 77, 78, 79, 44, 161, 162, 163, 164, 104, 105, 45] (by decide +kernel)
set_option maxRecDepth 20000 in
theorem wl_1 : ∀ w ∈ wsL_law0_r2, w ∈ lw_tbl := zinb _ [165, 135, 136, 46, 166, 167, 168, 80, 81, 82, 90, 92, 83, 84, 43, 85, 94, 86, 87, 42, 88, 89, 107, 108] (by decide +kernel)
set_option maxRecDepth 20000 in
theorem wl_2 : ∀ w ∈ wsL_law0_r3, w ∈ lw_tbl := zinb _ [109, 110, 112, 114, 116, 118, 120, 138, 139, 140, 160, 141, 142, 143, 145, 147, 1065, 1066, 1067, 1068, 1070, 1071, 1072, 1073] (by decide +kernel)
set_option maxRecDepth 20000 in
theorem wl_3 : ∀ w ∈ wsL_law0_r4, w ∈ lw_tbl := zinb _ [1074, 1075, 1076, 1077, 1202, 1078, 1079, 1203, 1080, 1081, 1082, 1083, 1084, 1085, 1087, 1088, 1089, 1090, 1092, 1096, 1097, 1098, 1100, 1101] (by decide +kernel)
set_option maxRecDepth 20000 in
theorem wl_4 : ∀ w ∈ wsL_law0_r5, w ∈ lw_tbl := zinb _ [1102, 1103, 1105, 1106, 1107, 1108, 1109, 1110, 186, 187, 188, 189, 1209, 1210, 1211, 1212, 1112, 1069, 286, 287, 40, 288, 289, 290] (by decide +kernel)
set_option maxRecDepth 20000 in
theorem wl_5 : ∀ w ∈ wsL_law0_r6, w ∈ lw_tbl := zinb _ [291, 292, 293, 294, 370, 52, 295, 296, 297, 298, 51, 386, 388, 6, 389, 253, 258, 221, 222, 223, 224, 93, 239, 240] (by decide +kernel)
set_option maxRecDepth 20000 in
theorem wl_6 : ∀ w ∈ wsL_law0_r7, w ∈ lw_tbl := zinb _ [241, 242, 243, 244, 53, 245, 246, 247, 54, 248, 249, 250, 251, 252, 390, 391, 392, 56, 393, 500, 509, 506, 498, 496] (by decide +kernel)
set_option maxRecDepth 20000 in
theorem wl_7 : ∀ w ∈ wsL_law0_r8, w ∈ lw_tbl := zinb _ [394, 395, 396, 397, 504, 502, 398, 399, 400, 401, 402, 403, 404, 405, 406, 408, 7, 409, 514, 510, 512, 494, 121, 410] (by decide +kernel)
set_option maxRecDepth 20000 in
theorem wl_8 : ∀ w ∈ wsL_law0_r9, w ∈ lw_tbl := zinb _ [412, 8, 413, 414, 415, 416, 417, 418, 419, 420, 421, 491, 513, 492, 422, 215, 55, 216, 495, 515, 517, 519, 423, 424] (by decide +kernel)
set_option maxRecDepth 20000 in
theorem wl_9 : ∀ w ∈ wsL_law0_r10, w ∈ lw_tbl := zinb _ [425, 426, 427, 428, 429, 430, 431, 214, 432, 433, 434, 66, 435, 849, 841, 844, 826, 507, 280, 271, 260, 261, 262, 846] (by decide +kernel)
set_option maxRecDepth 20000 in
theorem wl_10 : ∀ w ∈ wsL_law0_r11, w ∈ lw_tbl := zinb _ [276, 277, 278, 65, 279, 788, 787, 436, 438, 9, 439, 285, 969, 967, 440, 442, 10, 443, 964, 444, 446, 11, 447, 448] (by decide +kernel)
set_option maxRecDepth 20000 in
theorem wl_11 : ∀ w ∈ wsL_law0_r12, w ∈ lw_tbl := zinb _ [449, 450, 68, 451, 842, 962, 850, 965, 452, 453, 455, 12, 456, 851, 971, 457, 459, 13, 460, 461, 462, 463, 464, 839] (by decide +kernel)
set_option maxRecDepth 20000 in
theorem wl_12 : ∀ w ∈ wsL_law0_r13, w ∈ lw_tbl := zinb _ [465, 466, 467, 468, 848, 1213, 1214, 1215, 1216, 1217, 1218, 1219, 1220, 1222, 24, 1223, 1086, 1094, 1093, 1244, 1095, 1104, 1111, 1224] (by decide +kernel)
set_option maxRecDepth 20000 in
theorem wl_13 : ∀ w ∈ wsL_law0_r14, w ∈ lw_tbl := zinb _ [1226, 25, 1227, 1228, 1230, 26, 1231, 1232, 1234, 27, 1235, 1236, 1238, 28, 1239, 1240, 1242, 29, 1243, 1245, 1247, 30, 1248, 1249] (by decide +kernel)
set_option maxRecDepth 20000 in
theorem wl_14 : ∀ w ∈ wsL_law0_r15, w ∈ lw_tbl := zinb _ [1251, 31, 1252, 1253, 1255, 32, 1256, 1257, 1259, 33, 1260, 1261, 1263, 34, 1264, 1205, 1206, 1207, 1208, 469, 470, 471, 472, 473] (by decide +kernel)
set_option maxRecDepth 20000 in
theorem wl_15 : ∀ w ∈ wsL_law0_r16, w ∈ lw_tbl := zinb _ [474, 475, 1265, 1266, 1267, 1268, 476, 477, 478, 479, 480, 481, 482, 253, 484, 485, 486, 487, 488, 511, 489, 493, 556, 557] (by decide +kernel)
set_option maxRecDepth 20000 in
theorem wl_16 : ∀ w ∈ wsL_law0_r17, w ∈ lw_tbl := zinb _ [558, 559, 95, 96, 560, 562, 14, 563, 564, 566, 15, 567, 568, 570, 16, 571, 616, 617, 572, 573, 57, 574, 575, 576] (by decide +kernel)
set_option maxRecDepth 20000 in
theorem wl_17 : ∀ w ∈ wsL_law0_r18, w ∈ lw_tbl := zinb _ [577, 578, 579, 580, 581, 58, 582, 583, 1458, 584, 603, 604, 605, 606, 607, 609, 610, 611, 612, 613, 615, 614, 59, 1269] (by decide +kernel)
set_option maxRecDepth 20000 in
theorem wl_18 : ∀ w ∈ wsL_law0_r19, w ∈ lw_tbl := zinb _ [1270, 1271, 1272, 618, 619, 620, 621, 645, 646, 647, 648, 497, 499, 649, 651, 17, 652, 653, 60, 1273, 1274, 1275, 1276, 1277] (by decide +kernel)
set_option maxRecDepth 20000 in
theorem wl_19 : ∀ w ∈ wsL_law0_r20, w ∈ lw_tbl := zinb _ [1279, 35, 1280, 666, 667, 668, 669, 670, 671, 672, 501, 1281, 1282, 1283, 1284, 674, 675, 676, 677, 678, 679, 680, 503, 505] (by decide +kernel)
set_option maxRecDepth 20000 in
theorem wl_20 : ∀ w ∈ wsL_law0_r21, w ∈ lw_tbl := zinb _ [1285, 1286, 1287, 1288, 681, 682, 683, 684, 685, 686, 687, 508, 1289, 1290, 1291, 1292, 688, 689, 690, 691, 692, 693, 694, 1293] (by decide +kernel)
set_option maxRecDepth 20000 in
theorem wl_21 : ∀ w ∈ wsL_law0_r22, w ∈ lw_tbl := zinb _ [1294, 1295, 1296, 695, 696, 697, 698, 699, 700, 701, 702, 703, 63, 516, 520, 1297, 1298, 1299, 1300, 719, 720, 721, 722, 736] (by decide +kernel)
set_option maxRecDepth 20000 in
theorem wl_22 : ∀ w ∈ wsL_law0_r23, w ∈ lw_tbl := zinb _ [737, 738, 739, 740, 64, 518, 1301, 1302, 1303, 1304, 742, 743, 744, 745, 746, 747, 748, 254, 256, 2, 257, 845, 827, 259] (by decide +kernel)
set_option maxRecDepth 20000 in
theorem wl_23 : ∀ w ∈ wsL_law0_r24, w ∈ lw_tbl := zinb _ [1305, 1306, 1307, 1308, 1309, 1311, 36, 1312, 749, 750, 751, 752, 753, 754, 755, 111, 113, 115, 117, 1313, 1314, 1315, 1316, 756] (by decide +kernel)
set_option maxRecDepth 20000 in
theorem wl_24 : ∀ w ∈ wsL_law0_r25, w ∈ lw_tbl := zinb _ [757, 758, 759, 760, 761, 762, 119, 1317, 1318, 1319, 1320, 1091, 763, 764, 765, 766, 767, 768, 769, 1321, 1322, 1323, 1324, 190] (by decide +kernel)
set_option maxRecDepth 20000 in
theorem wl_25 : ∀ w ∈ wsL_law0_r26, w ∈ lw_tbl := zinb _ [191, 192, 193, 144, 1325, 1326, 1327, 1328, 194, 195, 196, 197, 146, 1329, 1330, 1331, 1332, 198, 199, 200, 201, 148, 1333, 1334] (by decide +kernel)
set_option maxRecDepth 20000 in
theorem wl_26 : ∀ w ∈ wsL_law0_r27, w ∈ lw_tbl := zinb _ [1335, 1336, 202, 203, 204, 205, 206, 207, 208, 209, 210, 211, 212, 213, 1337, 1338, 1339, 1340, 1341, 770, 771, 772, 773, 774] (by decide +kernel)
set_option maxRecDepth 20000 in
theorem wl_27 : ∀ w ∈ wsL_law0_r28, w ∈ lw_tbl := zinb _ [775, 776, 778, 779, 780, 781, 782, 783, 784, 1342, 1343, 1344, 1345, 1099, 796, 797, 798, 799, 800, 801, 802, 258, 814, 803] (by decide +kernel)
set_option maxRecDepth 20000 in
theorem wl_28 : ∀ w ∈ wsL_law0_r29, w ∈ lw_tbl := zinb _ [805, 18, 806, 778, 809, 811, 19, 812, 815, 816, 817, 818, 819, 820, 67, 785, 821, 822, 823, 824, 825, 828, 830, 1346] (by decide +kernel)
set_option maxRecDepth 20000 in
theorem wl_29 : ∀ w ∈ wsL_law0_r30, w ∈ lw_tbl := zinb _ [1347, 1348, 1349, 865, 866, 867, 868, 869, 870, 871, 490, 872, 874, 20, 875, 877, 878, 879, 881, 882, 883, 884, 829, 831] (by decide +kernel)
set_option maxRecDepth 20000 in
theorem wl_30 : ∀ w ∈ wsL_law0_r31, w ∈ lw_tbl := zinb _ [1350, 1351, 1352, 1353, 1354, 1356, 37, 1357, 885, 886, 887, 888, 889, 890, 891, 1358, 1359, 1360, 1361, 217, 218, 219, 220, 1362] (by decide +kernel)
set_option maxRecDepth 20000 in
theorem wl_31 : ∀ w ∈ wsL_law0_r32, w ∈ lw_tbl := zinb _ [1363, 1364, 1365, 892, 893, 894, 895, 896, 897, 898, 847, 1366, 1367, 1368, 1369, 899, 900, 901, 902, 903, 904, 905, 1370, 1371] (by decide +kernel)
set_option maxRecDepth 20000 in
theorem wl_32 : ∀ w ∈ wsL_law0_r33, w ∈ lw_tbl := zinb _ [1372, 1373, 906, 907, 908, 909, 910, 911, 912, 1374, 1375, 1376, 1377, 913, 914, 915, 916, 917, 918, 919, 267, 268, 269, 270] (by decide +kernel)
set_option maxRecDepth 20000 in
theorem wl_33 : ∀ w ∈ wsL_law0_r34, w ∈ lw_tbl := zinb _ [272, 273, 274, 275, 1378, 1379, 1380, 1381, 1382, 920, 921, 922, 923, 924, 925, 926, 843, 928, 927, 1383, 1384, 1385, 1386, 929] (by decide +kernel)
set_option maxRecDepth 20000 in
theorem wl_34 : ∀ w ∈ wsL_law0_r35, w ∈ lw_tbl := zinb _ [930, 931, 932, 933, 934, 935, 840, 1387, 1388, 1389, 1390, 937, 938, 939, 940, 941, 942, 943, 944, 945, 946, 947, 1391, 1392] (by decide +kernel)
set_option maxRecDepth 20000 in
theorem wl_35 : ∀ w ∈ wsL_law0_r36, w ∈ lw_tbl := zinb _ [1393, 1394, 949, 950, 951, 952, 953, 954, 955, 285, 957, 958, 959, 960, 961, 968, 970, 963, 966, 1395, 1396, 1397, 1398, 985] (by decide +kernel)
set_option maxRecDepth 20000 in
theorem wl_36 : ∀ w ∈ wsL_law0_r37, w ∈ lw_tbl := zinb _ [986, 987, 988, 989, 990, 991, 992, 994, 21, 995, 997, 998, 999, 1001, 1003, 22, 1004, 1399, 1400, 1401, 1402, 1403, 1405, 38] (by decide +kernel)
set_option maxRecDepth 20000 in
theorem wl_37 : ∀ w ∈ wsL_law0_r38, w ∈ lw_tbl := zinb _ [1406, 1005, 1006, 1007, 1008, 1009, 1010, 1011, 1407, 1408, 1409, 1410, 1012, 1013, 1014, 1015, 1016, 1017, 1018, 1019, 1021, 23, 1022, 1411] (by decide +kernel)
set_option maxRecDepth 20000 in
theorem wl_38 : ∀ w ∈ wsL_law0_r39, w ∈ lw_tbl := zinb _ [1412, 1413, 1414, 1415, 1417, 39, 1418, 1024, 1025, 1026, 1027, 1028, 1029, 1030, 1031, 1032, 69, 1419, 1420, 1421, 1422, 1048, 1049, 1050] (by decide +kernel)
set_option maxRecDepth 20000 in
theorem wl_39 : ∀ w ∈ wsL_law0_r40, w ∈ lw_tbl := zinb _ [1051, 1052, 1053, 1054, 1423, 1424, 1425, 1426, 1055, 1056, 1057, 1058, 1059, 1060, 1061, 1427, 1428, 1429, 1430, 225, 226, 227, 228, 229] (by decide +kernel)
set_option maxRecDepth 20000 in
theorem wl_40 : ∀ w ∈ wsL_law0_r41, w ∈ lw_tbl := zinb _ [231, 0, 232, 233, 234, 235, 237, 1, 238, 263, 265, 3, 266, 786, 281, 283, 4, 284, 1431, 1432, 1433, 1434] (by decide +kernel)
set_option maxRecDepth 20000 in
theorem wl_41 : ∀ w ∈ wsX70, w ∈ lw_tbl := zinb _ [169, 171, 173, 175, 177, 179, 181, 183] (by decide +kernel)
set_option maxRecDepth 20000 in
theorem wl_42 : ∀ w ∈ wsX80, w ∈ lw_tbl := zinb _ [1113, 1115, 1117, 1119, 1121, 1123, 1125, 1127, 1129, 1131, 1133, 1135, 1137, 1139, 1141, 1143, 1145, 1147, 1149, 1151, 1153, 1155, 1157, 1159, 1161, 1163, 1165, 1167, 1169, 1171, 1173, 1175, 1177, 1179, 1181, 1183, 1185, 1187, 1189, 1191, 1193, 1195, 1197, 1199] (by decide +kernel)
set_option maxRecDepth 20000 in
theorem wl_43 : ∀ w ∈ wsJx4a65c0, w ∈ lw_tbl := zinb _ [101, 97, 99] (by decide +kernel)
set_option maxRecDepth 20000 in
theorem wl_44 : ∀ w ∈ wsX00, w ∈ lw_tbl := zinb _ [122, 124, 126, 128, 130, 132] (by decide +kernel)
set_option maxRecDepth 20000 in
theorem wl_45 : ∀ w ∈ wsX20, w ∈ lw_tbl := zinb _ [149, 151, 153, 155, 157] (by decide +kernel)
set_option maxRecDepth 20000 in
theorem wl_46 : ∀ w ∈ wsX50, w ∈ lw_tbl := zinb _ [521, 523, 525, 527, 529, 531, 533, 535, 537, 539, 541, 543, 545, 547, 549, 551, 553] (by decide +kernel)
set_option maxRecDepth 20000 in
theorem wl_47 : ∀ w ∈ wsX40, w ∈ lw_tbl := zinb _ [852, 854, 856, 858, 860, 862] (by decide +kernel)
set_option maxRecDepth 20000 in
theorem wl_48 : ∀ w ∈ wsX60, w ∈ lw_tbl := zinb _ [832, 834, 836] (by decide +kernel)
set_option maxRecDepth 20000 in
theorem wl_49 : ∀ w ∈ wsX10, w ∈ lw_tbl := zinb _ [789, 791, 793] (by decide +kernel)
set_option maxRecDepth 20000 in
theorem wl_50 : ∀ w ∈ wsX30, w ∈ lw_tbl := zinb _ [972, 974, 976, 978, 980, 982] (by decide +kernel)
set_option maxRecDepth 20000 in
theorem wl_51 : ∀ w ∈ ((vx_atM "java/lang/ArrayIndexOutOfBoundsException" ["java/lang/IndexOutOfBoundsException", "java/lang/RuntimeException", "java/lang/Exception"]).filter goodWord), w ∈ lw_tbl := zinb _ [48, 320, 329, 337, 340, 342, 321, 322, 76, 77, 323, 328, 338, 358, 310, 359, 312, 360, 314, 324, 326, 316, 354, 355, 357, 316, 623, 624, 625, 626, 626, 627, 628, 348, 348, 349, 350, 351, 351, 352, 353, 354, 62, 640, 369, 641, 643, 642, 644, 61, 622, 639, 332, 631, 632, 634, 630, 319, 318, 629] (by decide +kernel)
set_option maxRecDepth 20000 in
theorem wl_52 : ∀ w ∈ ((vx_atS RX7 54 "java/lang/IllegalStateException" ["java/lang/RuntimeException", "java/lang/Exception"]).filter goodWord), w ∈ lw_tbl := zinb _ [48, 320, 329, 337, 340, 342, 321, 322, 76, 77, 323, 328, 338, 358, 310, 359, 312, 360, 314, 324, 326, 316, 354, 355, 357, 316, 381, 382, 383, 348, 348, 349, 350, 351, 351, 352, 353, 354, 380, 371, 373, 333, 374, 375, 376, 377, 319, 318, 378] (by decide +kernel)
set_option maxRecDepth 20000 in
theorem wl_53 : ∀ w ∈ ((vx_atS RX7 89 "java/lang/IllegalArgumentException" ["java/lang/RuntimeException", "java/lang/Exception"]).filter goodWord), w ∈ lw_tbl := zinb _ [48, 320, 329, 337, 340, 342, 321, 322, 76, 77, 323, 328, 338, 358, 310, 359, 312, 360, 314, 324, 326, 316, 354, 355, 357, 316, 345, 346, 347, 348, 348, 349, 350, 351, 351, 352, 353, 354, 344, 299, 307, 308, 309, 311, 313, 315, 319, 318, 317] (by decide +kernel)
set_option maxRecDepth 20000 in
theorem wl_54 : ∀ w ∈ ((vx_atS RX7 318 "java/lang/IndexOutOfBoundsException" ["java/lang/RuntimeException", "java/lang/Exception"]).filter goodWord), w ∈ lw_tbl := zinb _ [48, 320, 329, 337, 340, 342, 321, 322, 76, 77, 323, 328, 338, 358, 310, 359, 312, 360, 314, 324, 326, 316, 354, 355, 357, 316, 626, 627, 628, 348, 348, 349, 350, 351, 351, 352, 353, 354, 663, 654, 656, 334, 657, 658, 659, 660, 319, 318, 661] (by decide +kernel)
set_option maxRecDepth 20000 in
theorem wl_55 : ∀ w ∈ ((vx_atS RX7 114 "java/util/NoSuchElementException" ["java/lang/RuntimeException", "java/lang/Exception"]).filter goodWord), w ∈ lw_tbl := zinb _ [48, 320, 329, 337, 340, 342, 321, 322, 76, 77, 323, 328, 338, 358, 310, 359, 312, 360, 314, 324, 326, 316, 354, 355, 357, 316, 714, 715, 716, 348, 348, 349, 350, 351, 351, 352, 353, 354, 713, 704, 706, 336, 707, 708, 709, 710, 319, 318, 711] (by decide +kernel)
set_option maxRecDepth 20000 in
theorem wl_56 : ∀ w ∈ ((vx_atS RX7 120 "java/lang/ArithmeticException" ["java/lang/RuntimeException", "java/lang/Exception"]).filter goodWord), w ∈ lw_tbl := zinb _ [48, 320, 329, 337, 340, 342, 321, 322, 76, 77, 323, 328, 338, 358, 310, 359, 312, 360, 314, 324, 326, 316, 354, 355, 357, 316, 724, 725, 726, 348, 348, 349, 350, 351, 351, 352, 353, 354, 741, 723, 735, 331, 729, 730, 732, 728, 319, 318, 727] (by decide +kernel)
set_option maxRecDepth 20000 in
theorem wl_57 : ∀ w ∈ ((vx_atS RX7 291 "java/lang/UnsupportedOperationException" ["java/lang/RuntimeException", "java/lang/Exception"]).filter goodWord), w ∈ lw_tbl := zinb _ [48, 320, 329, 337, 340, 342, 321, 322, 76, 77, 323, 328, 338, 358, 310, 359, 312, 360, 314, 324, 326, 316, 354, 355, 357, 316, 1043, 1044, 1045, 348, 348, 349, 350, 351, 351, 352, 353, 354, 1042, 1033, 1035, 335, 1036, 1037, 1038, 1039, 319, 318, 1040] (by decide +kernel)
theorem wsL_law0_in : ∀ w ∈ wsL_law0, w ∈ lw_tbl := by
  unfold wsL_law0
  exact zap (zap (zap (zap (zap (zap (zap (zap (zap (zap (zap (zap wl_0 (zap wl_1 (zap wl_2 (zap wl_3 (zap wl_4 (zap wl_5 (zap wl_6 (zap wl_7 (zap wl_8 (zap wl_9 (zap wl_10 (zap wl_11 (zap wl_12 (zap wl_13 (zap wl_14 (zap wl_15 (zap wl_16 (zap wl_17 (zap wl_18 (zap wl_19 (zap wl_20 (zap wl_21 (zap wl_22 (zap wl_23 (zap wl_24 (zap wl_25 (zap wl_26 (zap wl_27 (zap wl_28 (zap wl_29 (zap wl_30 (zap wl_31 (zap wl_32 (zap wl_33 (zap wl_34 (zap wl_35 (zap wl_36 (zap wl_37 (zap wl_38 (zap wl_39 (wl_40))))))))))))))))))))))))))))))))))))))))) wl_41) wl_42) wl_43) wl_44) wl_45) wl_46) wl_47) wl_48) wl_49) wl_50) (fun _ h => absurd h List.not_mem_nil)
theorem wsL_law_in : ∀ w ∈ wsL_law, w ∈ lw_tbl := by
  unfold wsL_law
  exact zap (zap (zap (zap (zap (zap (zap (wsL_law0_in) wl_51) wl_52) wl_53) wl_54) wl_55) wl_56) wl_57
