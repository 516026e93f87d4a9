/-! The words of the law stand in the tables -/
theorem inApp {a b big : List Cond} (ha : ∀ w ∈ a, w ∈ big) (hb : ∀ w ∈ b, w ∈ big) : ∀ w ∈ a ++ b, w ∈ big := fun w h => (List.mem_append.mp h).elim (ha w) (hb w)
theorem inNil {big : List Cond} : ∀ w ∈ ([] : List Cond), w ∈ big := fun _ h => nomatch h
set_option maxRecDepth 100000 in
theorem li_wsL_law0_r1 : ∀ w ∈ wsL_law0_r1, w ∈ lw_tbl := fun w h => (goodIn_r wsL_law0_r1 [89, 90, 67, 979, 980, 72, 1377, 1378, 91, 92, 93, 94, 95, 96, 97, 98, 68, 194, 195, 196, 135, 136, 69, 197] rfl (by decide +kernel) w h).1
set_option maxRecDepth 100000 in
theorem li_wsL_law0_r2 : ∀ w ∈ wsL_law0_r2, w ∈ lw_tbl := fun w h => (goodIn_r wsL_law0_r2 [155, 156, 70, 198, 180, 181, 71, 199, 200, 201, 202, 203, 100, 101, 102, 134, 103, 104, 105, 107, 109, 111, 113, 115] rfl (by decide +kernel) w h).1
set_option maxRecDepth 100000 in
theorem li_wsL_law0_r3 : ∀ w ∈ wsL_law0_r3, w ∈ lw_tbl := fun w h => (goodIn_r wsL_law0_r3 [137, 138, 139, 140, 141, 144, 145, 146, 158, 159, 160, 179, 161, 162, 163, 165, 166, 183, 184, 185, 186, 187, 981, 982] rfl (by decide +kernel) w h).1
set_option maxRecDepth 100000 in
theorem li_wsL_law0_r4 : ∀ w ∈ wsL_law0_r4, w ∈ lw_tbl := fun w h => (goodIn_r wsL_law0_r4 [983, 984, 985, 986, 987, 988, 996, 998, 999, 1001, 1003, 500, 501, 66, 502, 503, 504, 505, 506, 507, 508, 329, 330, 331] rfl (by decide +kernel) w h).1
set_option maxRecDepth 100000 in
theorem li_wsL_law0_r5 : ∀ w ∈ wsL_law0_r5, w ∈ lw_tbl := fun w h => (goodIn_r wsL_law0_r5 [332, 333, 334, 73, 335, 336, 262, 263, 264, 265, 266, 73, 267, 268, 270, 269, 74, 509, 511, 7, 512, 106, 513, 515] rfl (by decide +kernel) w h).1
set_option maxRecDepth 100000 in
theorem li_wsL_law0_r6 : ∀ w ∈ wsL_law0_r6, w ∈ lw_tbl := fun w h => (goodIn_r wsL_law0_r6 [8, 516, 517, 518, 519, 520, 275, 276, 277, 278, 345, 347, 4, 348, 349, 78, 421, 79, 437, 80, 453, 454, 455, 456] rfl (by decide +kernel) w h).1
set_option maxRecDepth 100000 in
theorem li_wsL_law0_r7 : ∀ w ∈ wsL_law0_r7, w ∈ lw_tbl := fun w h => (goodIn_r wsL_law0_r7 [457, 1050, 1051, 1052, 1053, 1054, 1055, 1056, 1057, 1059, 28, 1060, 993, 992, 1061, 1063, 29, 1064, 994, 995, 1065, 1067, 30, 1068] rfl (by decide +kernel) w h).1
set_option maxRecDepth 100000 in
theorem li_wsL_law0_r8 : ∀ w ∈ wsL_law0_r8, w ∈ lw_tbl := fun w h => (goodIn_r wsL_law0_r8 [991, 990, 1069, 1070, 1071, 1072, 1074, 31, 1075, 1046, 1047, 1048, 1049, 521, 522, 523, 524, 525, 526, 527, 528, 530, 9, 531] rfl (by decide +kernel) w h).1
set_option maxRecDepth 100000 in
theorem li_wsL_law0_r9 : ∀ w ∈ wsL_law0_r9, w ∈ lw_tbl := fun w h => (goodIn_r wsL_law0_r9 [532, 534, 10, 535, 108, 536, 537, 538, 539, 299, 300, 301, 302, 1076, 1077, 1078, 1079, 1080, 1082, 32, 1083, 540, 541, 542] rfl (by decide +kernel) w h).1
set_option maxRecDepth 100000 in
theorem li_wsL_law0_r10 : ∀ w ∈ wsL_law0_r10, w ∈ lw_tbl := fun w h => (goodIn_r wsL_law0_r10 [543, 544, 545, 546, 1084, 1085, 1086, 1087, 547, 548, 549, 550, 571, 572, 573, 574, 575, 577, 11, 578, 579, 580, 581, 582] rfl (by decide +kernel) w h).1
set_option maxRecDepth 100000 in
theorem li_wsL_law0_r11 : ∀ w ∈ wsL_law0_r11, w ∈ lw_tbl := fun w h => (goodIn_r wsL_law0_r11 [583, 584, 585, 586, 470, 234, 235, 236, 587, 292, 293, 294, 237, 238, 239, 240, 233, 588, 589, 590, 591, 592, 296, 297] rfl (by decide +kernel) w h).1
set_option maxRecDepth 100000 in
theorem li_wsL_law0_r12 : ∀ w ∈ wsL_law0_r12, w ∈ lw_tbl := fun w h => (goodIn_r wsL_law0_r12 [298, 593, 594, 595, 596, 249, 250, 251, 252, 253, 254, 255, 256, 1088, 1089, 1090, 1091, 1092, 1094, 33, 1095, 1096, 1098, 34] rfl (by decide +kernel) w h).1
set_option maxRecDepth 100000 in
theorem li_wsL_law0_r13 : ∀ w ∈ wsL_law0_r13, w ∈ lw_tbl := fun w h => (goodIn_r wsL_law0_r13 [1099, 1100, 1102, 35, 1103, 1104, 1106, 36, 1107, 1108, 1110, 37, 1111, 1112, 1114, 38, 1115, 1116, 1118, 39, 1119, 1120, 1122, 40] rfl (by decide +kernel) w h).1
set_option maxRecDepth 100000 in
theorem li_wsL_law0_r14 : ∀ w ∈ wsL_law0_r14, w ∈ lw_tbl := fun w h => (goodIn_r wsL_law0_r14 [1123, 1124, 1126, 41, 1127, 1128, 1130, 42, 1131, 597, 598, 599, 600, 601, 602, 603, 604, 606, 12, 607, 608, 1132, 1133, 1134] rfl (by decide +kernel) w h).1
set_option maxRecDepth 100000 in
theorem li_wsL_law0_r15 : ∀ w ∈ wsL_law0_r15, w ∈ lw_tbl := fun w h => (goodIn_r wsL_law0_r15 [1135, 609, 610, 611, 612, 613, 614, 615, 616, 618, 13, 619, 1136, 1137, 1138, 1139, 622, 623, 624, 625, 626, 627, 628, 629] rfl (by decide +kernel) w h).1
set_option maxRecDepth 100000 in
theorem li_wsL_law0_r16 : ∀ w ∈ wsL_law0_r16, w ∈ lw_tbl := fun w h => (goodIn_r wsL_law0_r16 [631, 14, 632, 475, 1140, 1141, 1142, 1143, 225, 226, 227, 228, 229, 230, 231, 232, 241, 243, 0, 244, 245, 246, 247, 248] rfl (by decide +kernel) w h).1
set_option maxRecDepth 100000 in
theorem li_wsL_law0_r17 : ∀ w ∈ wsL_law0_r17, w ∈ lw_tbl := fun w h => (goodIn_r wsL_law0_r17 [1144, 1145, 1146, 1147, 1148, 1150, 43, 1151, 635, 636, 637, 638, 639, 640, 641, 642, 1152, 1153, 1154, 1155, 643, 644, 645, 646] rfl (by decide +kernel) w h).1
set_option maxRecDepth 100000 in
theorem li_wsL_law0_r18 : ∀ w ∈ wsL_law0_r18, w ∈ lw_tbl := fun w h => (goodIn_r wsL_law0_r18 [647, 648, 649, 650, 652, 15, 653, 114, 654, 655, 656, 657, 271, 272, 273, 274, 279, 280, 281, 282, 283, 285, 1, 286] rfl (by decide +kernel) w h).1
set_option maxRecDepth 100000 in
theorem li_wsL_law0_r19 : ∀ w ∈ wsL_law0_r19, w ∈ lw_tbl := fun w h => (goodIn_r wsL_law0_r19 [287, 289, 2, 290, 291, 295, 1156, 1157, 1158, 1159, 1160, 1162, 44, 1163, 1164, 1166, 45, 1167, 1168, 1170, 46, 1171, 1172, 1174] rfl (by decide +kernel) w h).1
set_option maxRecDepth 100000 in
theorem li_wsL_law0_r20 : ∀ w ∈ wsL_law0_r20, w ∈ lw_tbl := fun w h => (goodIn_r wsL_law0_r20 [47, 1175, 1176, 1178, 48, 1179, 1180, 1182, 49, 1183, 257, 258, 259, 260, 261, 1184, 1185, 1186, 1187, 658, 659, 660, 661, 662] rfl (by decide +kernel) w h).1
set_option maxRecDepth 100000 in
theorem li_wsL_law0_r21 : ∀ w ∈ wsL_law0_r21, w ∈ lw_tbl := fun w h => (goodIn_r wsL_law0_r21 [663, 664, 665, 667, 16, 668, 669, 670, 671, 672, 1188, 1189, 1190, 1191, 1192, 1194, 50, 1195, 673, 674, 675, 676, 677, 678] rfl (by decide +kernel) w h).1
set_option maxRecDepth 100000 in
theorem li_wsL_law0_r22 : ∀ w ∈ wsL_law0_r22, w ∈ lw_tbl := fun w h => (goodIn_r wsL_law0_r22 [679, 680, 689, 83, 681, 683, 17, 684, 685, 686, 687, 688, 1196, 1197, 1198, 1199, 1200, 1202, 51, 1203, 705, 706, 707, 708] rfl (by decide +kernel) w h).1
set_option maxRecDepth 100000 in
theorem li_wsL_law0_r23 : ∀ w ∈ wsL_law0_r23, w ∈ lw_tbl := fun w h => (goodIn_r wsL_law0_r23 [709, 710, 711, 712, 714, 18, 715, 110, 492, 493, 494, 495, 716, 717, 718, 719, 1204, 1205, 1206, 1207, 1208, 1210, 52, 1211] rfl (by decide +kernel) w h).1
set_option maxRecDepth 100000 in
theorem li_wsL_law0_r24 : ∀ w ∈ wsL_law0_r24, w ∈ lw_tbl := fun w h => (goodIn_r wsL_law0_r24 [720, 721, 722, 723, 724, 725, 726, 727, 729, 19, 730, 731, 732, 733, 734, 1212, 1213, 1214, 1215, 1216, 1217, 1218, 735, 736] rfl (by decide +kernel) w h).1
set_option maxRecDepth 100000 in
theorem li_wsL_law0_r25 : ∀ w ∈ wsL_law0_r25, w ∈ lw_tbl := fun w h => (goodIn_r wsL_law0_r25 [737, 738, 739, 740, 741, 742, 316, 317, 318, 1219, 1220, 1221, 1222, 1223, 1225, 53, 1226, 743, 744, 745, 746, 747, 748, 749] rfl (by decide +kernel) w h).1
set_option maxRecDepth 100000 in
theorem li_wsL_law0_r26 : ∀ w ∈ wsL_law0_r26, w ∈ lw_tbl := fun w h => (goodIn_r wsL_law0_r26 [319, 320, 84, 321, 322, 323, 324, 1227, 1228, 1229, 1230, 1231, 1232, 86, 1233, 1237, 1239, 1238, 86, 1240, 1234, 1235, 1236, 750] rfl (by decide +kernel) w h).1
set_option maxRecDepth 100000 in
theorem li_wsL_law0_r27 : ∀ w ∈ wsL_law0_r27, w ∈ lw_tbl := fun w h => (goodIn_r wsL_law0_r27 [751, 752, 753, 754, 755, 756, 757, 759, 760, 761, 762, 1241, 1242, 1243, 1244, 1245, 1246, 1248, 1247, 763, 764, 765, 766, 767] rfl (by decide +kernel) w h).1
set_option maxRecDepth 100000 in
theorem li_wsL_law0_r28 : ∀ w ∈ wsL_law0_r28, w ∈ lw_tbl := fun w h => (goodIn_r wsL_law0_r28 [768, 769, 770, 312, 313, 314, 315, 1249, 1250, 1251, 1252, 1253, 1255, 54, 1256, 303, 304, 305, 306, 307, 308, 309, 310, 311] rfl (by decide +kernel) w h).1
set_option maxRecDepth 100000 in
theorem li_wsL_law0_r29 : ∀ w ∈ wsL_law0_r29, w ∈ lw_tbl := fun w h => (goodIn_r wsL_law0_r29 [1257, 1258, 1259, 1260, 325, 326, 327, 328, 337, 338, 339, 340, 341, 343, 3, 344, 1261, 1262, 1263, 1264, 771, 772, 773, 774] rfl (by decide +kernel) w h).1
set_option maxRecDepth 100000 in
theorem li_wsL_law0_r30 : ∀ w ∈ wsL_law0_r30, w ∈ lw_tbl := fun w h => (goodIn_r wsL_law0_r30 [775, 776, 777, 778, 779, 780, 781, 782, 784, 20, 785, 1265, 1266, 1267, 1268, 787, 788, 789, 790, 791, 792, 793, 794, 1269] rfl (by decide +kernel) w h).1
set_option maxRecDepth 100000 in
theorem li_wsL_law0_r31 : ∀ w ∈ wsL_law0_r31, w ∈ lw_tbl := fun w h => (goodIn_r wsL_law0_r31 [1270, 1271, 1272, 458, 459, 460, 461, 188, 462, 463, 464, 465, 466, 468, 6, 469, 471, 472, 473, 474, 1273, 1274, 1275, 1276] rfl (by decide +kernel) w h).1
set_option maxRecDepth 100000 in
theorem li_wsL_law0_r32 : ∀ w ∈ wsL_law0_r32, w ∈ lw_tbl := fun w h => (goodIn_r wsL_law0_r32 [1000, 1277, 1279, 55, 1280, 796, 797, 798, 799, 800, 801, 802, 803, 804, 805, 806, 807, 808, 809, 810, 811, 1281, 1282, 1283] rfl (by decide +kernel) w h).1
set_option maxRecDepth 100000 in
theorem li_wsL_law0_r33 : ∀ w ∈ wsL_law0_r33, w ∈ lw_tbl := fun w h => (goodIn_r wsL_law0_r33 [1284, 1285, 1287, 56, 1288, 812, 813, 814, 815, 816, 817, 818, 820, 821, 822, 823, 1289, 1290, 1291, 1292, 824, 825, 826, 827] rfl (by decide +kernel) w h).1
set_option maxRecDepth 100000 in
theorem li_wsL_law0_r34 : ∀ w ∈ wsL_law0_r34, w ∈ lw_tbl := fun w h => (goodIn_r wsL_law0_r34 [828, 829, 830, 831, 832, 87, 164, 848, 849, 850, 851, 1293, 1294, 1295, 1296, 997, 852, 853, 854, 855, 856, 857, 858, 167] rfl (by decide +kernel) w h).1
set_option maxRecDepth 100000 in
theorem li_wsL_law0_r35 : ∀ w ∈ wsL_law0_r35, w ∈ lw_tbl := fun w h => (goodIn_r wsL_law0_r35 [859, 860, 861, 862, 863, 865, 21, 866, 867, 869, 22, 870, 871, 873, 23, 874, 875, 877, 24, 878, 879, 881, 25, 882] rfl (by decide +kernel) w h).1
set_option maxRecDepth 100000 in
theorem li_wsL_law0_r36 : ∀ w ∈ wsL_law0_r36, w ∈ lw_tbl := fun w h => (goodIn_r wsL_law0_r36 [883, 885, 26, 886, 887, 888, 889, 890, 892, 894, 27, 895, 896, 897, 898, 899, 900, 901, 902, 903, 1297, 1298, 1299, 1300] rfl (by decide +kernel) w h).1
set_option maxRecDepth 100000 in
theorem li_wsL_law0_r37 : ∀ w ∈ wsL_law0_r37, w ∈ lw_tbl := fun w h => (goodIn_r wsL_law0_r37 [1002, 1004, 1301, 1303, 57, 1304, 1305, 1307, 58, 1308, 1309, 1311, 59, 1312, 1313, 1315, 60, 1316, 1317, 1319, 61, 1320, 1321, 1323] rfl (by decide +kernel) w h).1
set_option maxRecDepth 100000 in
theorem li_wsL_law0_r38 : ∀ w ∈ wsL_law0_r38, w ∈ lw_tbl := fun w h => (goodIn_r wsL_law0_r38 [62, 1324, 1325, 1327, 63, 1328, 1329, 1330, 1331, 1332, 1333, 1334, 1335, 1336, 476, 477, 478, 479, 1337, 1338, 1339, 1340, 906, 907] rfl (by decide +kernel) w h).1
set_option maxRecDepth 100000 in
theorem li_wsL_law0_r39 : ∀ w ∈ wsL_law0_r39, w ∈ lw_tbl := fun w h => (goodIn_r wsL_law0_r39 [908, 909, 910, 911, 912, 1341, 1342, 1343, 1344, 914, 915, 916, 917, 918, 919, 920, 112, 116, 147, 921, 922, 923, 924, 1345] rfl (by decide +kernel) w h).1
set_option maxRecDepth 100000 in
theorem li_wsL_law0_r40 : ∀ w ∈ wsL_law0_r40, w ∈ lw_tbl := fun w h => (goodIn_r wsL_law0_r40 [1346, 1347, 1348, 1349, 1351, 64, 1352, 1353, 1355, 65, 1356, 480, 481, 482, 483, 484, 485, 486, 487, 488, 489, 490, 491, 1357] rfl (by decide +kernel) w h).1
set_option maxRecDepth 100000 in
theorem li_wsL_law0_r41 : ∀ w ∈ wsL_law0_r41, w ∈ lw_tbl := fun w h => (goodIn_r wsL_law0_r41 [1358, 1359, 1360, 926, 927, 928, 929, 943, 944, 945, 946, 947, 88, 950, 951, 952, 953, 1361, 1362, 1363, 1364, 954, 955, 956] rfl (by decide +kernel) w h).1
set_option maxRecDepth 100000 in
theorem li_wsL_law0_r42 : ∀ w ∈ wsL_law0_r42, w ∈ lw_tbl := fun w h => (goodIn_r wsL_law0_r42 [957, 958, 959, 960, 962, 963, 964, 965, 966, 1365, 1366, 1367, 1368, 496, 497, 498, 499, 1369, 1370, 1371, 1372, 989, 967, 968] rfl (by decide +kernel) w h).1
set_option maxRecDepth 100000 in
theorem li_wsL_law0_r43 : ∀ w ∈ wsL_law0_r43, w ∈ lw_tbl := fun w h => (goodIn_r wsL_law0_r43 [969, 970, 971, 972, 973, 975, 976, 977, 978, 1373, 1374, 1375, 1376] rfl (by decide +kernel) w h).1
set_option maxRecDepth 100000 in
theorem li_wsX50 : ∀ w ∈ wsX50, w ∈ lw_tbl := fun w h => (goodIn_r wsX50 [204, 206, 208, 210, 212, 214, 216, 218, 220, 222] rfl (by decide +kernel) w h).1
set_option maxRecDepth 100000 in
theorem li_wsX60 : ∀ w ∈ wsX60, w ∈ lw_tbl := fun w h => (goodIn_r wsX60 [1005, 1007, 1009, 1011, 1013, 1015, 1017, 1019, 1021, 1023, 1025, 1027, 1029, 1031, 1033, 1035, 1037, 1039, 1041, 1043] rfl (by decide +kernel) w h).1
set_option maxRecDepth 100000 in
theorem li_wsX30 : ∀ w ∈ wsX30, w ∈ lw_tbl := fun w h => (goodIn_r wsX30 [117, 119, 121, 123, 125, 127, 129, 131] rfl (by decide +kernel) w h).1
set_option maxRecDepth 100000 in
theorem li_wsX10 : ∀ w ∈ wsX10, w ∈ lw_tbl := fun w h => (goodIn_r wsX10 [148, 150, 152] rfl (by decide +kernel) w h).1
set_option maxRecDepth 100000 in
theorem li_wsX40 : ∀ w ∈ wsX40, w ∈ lw_tbl := fun w h => (goodIn_r wsX40 [168, 170, 172, 174, 176] rfl (by decide +kernel) w h).1
set_option maxRecDepth 100000 in
theorem li_wsX20 : ∀ w ∈ wsX20, w ∈ lw_tbl := fun w h => (goodIn_r wsX20 [189, 191] rfl (by decide +kernel) w h).1
theorem wsL_law_in0 : ∀ w ∈ wsL_law0, w ∈ lw_tbl := inApp (inApp (inApp (inApp (inApp (inApp (inApp ((inApp li_wsL_law0_r1 (inApp li_wsL_law0_r2 (inApp li_wsL_law0_r3 (inApp li_wsL_law0_r4 (inApp li_wsL_law0_r5 (inApp li_wsL_law0_r6 (inApp li_wsL_law0_r7 (inApp li_wsL_law0_r8 (inApp li_wsL_law0_r9 (inApp li_wsL_law0_r10 (inApp li_wsL_law0_r11 (inApp li_wsL_law0_r12 (inApp li_wsL_law0_r13 (inApp li_wsL_law0_r14 (inApp li_wsL_law0_r15 (inApp li_wsL_law0_r16 (inApp li_wsL_law0_r17 (inApp li_wsL_law0_r18 (inApp li_wsL_law0_r19 (inApp li_wsL_law0_r20 (inApp li_wsL_law0_r21 (inApp li_wsL_law0_r22 (inApp li_wsL_law0_r23 (inApp li_wsL_law0_r24 (inApp li_wsL_law0_r25 (inApp li_wsL_law0_r26 (inApp li_wsL_law0_r27 (inApp li_wsL_law0_r28 (inApp li_wsL_law0_r29 (inApp li_wsL_law0_r30 (inApp li_wsL_law0_r31 (inApp li_wsL_law0_r32 (inApp li_wsL_law0_r33 (inApp li_wsL_law0_r34 (inApp li_wsL_law0_r35 (inApp li_wsL_law0_r36 (inApp li_wsL_law0_r37 (inApp li_wsL_law0_r38 (inApp li_wsL_law0_r39 (inApp li_wsL_law0_r40 (inApp li_wsL_law0_r41 (inApp li_wsL_law0_r42 (li_wsL_law0_r43)))))))))))))))))))))))))))))))))))))))))))) li_wsX50) li_wsX60) li_wsX30) li_wsX10) li_wsX40) li_wsX20) inNil
theorem wsL_law_x0 : ∀ w ∈ (vx_atM "java/lang/ArrayIndexOutOfBoundsException" ["java/lang/IndexOutOfBoundsException", "java/lang/RuntimeException", "java/lang/Exception"]).filter goodWord, w ∈ lw_tbl := by decide +kernel
theorem wsL_law_x1 : ∀ w ∈ (vx_atS RX5 207 "java/lang/IndexOutOfBoundsException" ["java/lang/RuntimeException", "java/lang/Exception"]).filter goodWord, w ∈ lw_tbl := by decide +kernel
theorem wsL_law_x2 : ∀ w ∈ (vx_atS RX5 90 "java/lang/IllegalArgumentException" ["java/lang/RuntimeException", "java/lang/Exception"]).filter goodWord, w ∈ lw_tbl := by decide +kernel
theorem wsL_law_x3 : ∀ w ∈ (vx_atS RX5 238 "java/lang/UnsupportedOperationException" ["java/lang/RuntimeException", "java/lang/Exception"]).filter goodWord, w ∈ lw_tbl := by decide +kernel
theorem wsL_law_x4 : ∀ w ∈ (vx_at13 RX5 140 "java/util/NoSuchElementException" ["java/lang/RuntimeException", "java/lang/Exception"]).filter goodWord, w ∈ lw_tbl := by decide +kernel
theorem wsL_law_x5 : ∀ w ∈ (vx_atS RX5 217 "java/lang/IllegalStateException" ["java/lang/RuntimeException", "java/lang/Exception"]).filter goodWord, w ∈ lw_tbl := by decide +kernel
theorem wsL_law_x6 : ∀ w ∈ (vx_atS RX5 286 "java/lang/ArithmeticException" ["java/lang/RuntimeException", "java/lang/Exception"]).filter goodWord, w ∈ lw_tbl := by decide +kernel
theorem wsL_law_in : ∀ w ∈ wsL_law, w ∈ lw_tbl := fun w h => (List.mem_append.mp h).elim (fun h => (List.mem_append.mp h).elim (fun h => (List.mem_append.mp h).elim (fun h => (List.mem_append.mp h).elim (fun h => (List.mem_append.mp h).elim (fun h => (List.mem_append.mp h).elim (fun h => (List.mem_append.mp h).elim (fun h => wsL_law_in0 w h) (fun h => wsL_law_x0 w h)) (fun h => wsL_law_x1 w h)) (fun h => wsL_law_x2 w h)) (fun h => wsL_law_x3 w h)) (fun h => wsL_law_x4 w h)) (fun h => wsL_law_x5 w h)) (fun h => wsL_law_x6 w h)
theorem inX0 : ∀ w ∈ wsX00, w ∈ lw_tbl := by decide +kernel
theorem inlX1 : ∀ w ∈ wsX10, w ∈ wsL_law := fun _ h => List.mem_append_left _ (List.mem_append_left _ (List.mem_append_left _ (List.mem_append_left _ (List.mem_append_left _ (List.mem_append_left _ (List.mem_append_left _ (List.mem_append_left _ (List.mem_append_left _ (List.mem_append_left _ (List.mem_append_right _ h))))))))))
theorem inX1 : ∀ w ∈ wsX10, w ∈ lw_tbl := fun w h => wsL_law_in w (inlX1 w h)
theorem inlX2 : ∀ w ∈ wsX20, w ∈ wsL_law := fun _ h => List.mem_append_left _ (List.mem_append_left _ (List.mem_append_left _ (List.mem_append_left _ (List.mem_append_left _ (List.mem_append_left _ (List.mem_append_left _ (List.mem_append_left _ (List.mem_append_right _ h))))))))
theorem inX2 : ∀ w ∈ wsX20, w ∈ lw_tbl := fun w h => wsL_law_in w (inlX2 w h)
theorem inlX3 : ∀ w ∈ wsX30, w ∈ wsL_law := fun _ h => List.mem_append_left _ (List.mem_append_left _ (List.mem_append_left _ (List.mem_append_left _ (List.mem_append_left _ (List.mem_append_left _ (List.mem_append_left _ (List.mem_append_left _ (List.mem_append_left _ (List.mem_append_left _ (List.mem_append_left _ (List.mem_append_right _ h)))))))))))
theorem inX3 : ∀ w ∈ wsX30, w ∈ lw_tbl := fun w h => wsL_law_in w (inlX3 w h)
theorem inlX4 : ∀ w ∈ wsX40, w ∈ wsL_law := fun _ h => List.mem_append_left _ (List.mem_append_left _ (List.mem_append_left _ (List.mem_append_left _ (List.mem_append_left _ (List.mem_append_left _ (List.mem_append_left _ (List.mem_append_left _ (List.mem_append_left _ (List.mem_append_right _ h)))))))))
theorem inX4 : ∀ w ∈ wsX40, w ∈ lw_tbl := fun w h => wsL_law_in w (inlX4 w h)
theorem inlX5 : ∀ w ∈ wsX50, w ∈ wsL_law := fun _ h => List.mem_append_left _ (List.mem_append_left _ (List.mem_append_left _ (List.mem_append_left _ (List.mem_append_left _ (List.mem_append_left _ (List.mem_append_left _ (List.mem_append_left _ (List.mem_append_left _ (List.mem_append_left _ (List.mem_append_left _ (List.mem_append_left _ (List.mem_append_left _ (List.mem_append_right _ h)))))))))))))
theorem inX5 : ∀ w ∈ wsX50, w ∈ lw_tbl := fun w h => wsL_law_in w (inlX5 w h)
theorem inlX6 : ∀ w ∈ wsX60, w ∈ wsL_law := fun _ h => List.mem_append_left _ (List.mem_append_left _ (List.mem_append_left _ (List.mem_append_left _ (List.mem_append_left _ (List.mem_append_left _ (List.mem_append_left _ (List.mem_append_left _ (List.mem_append_left _ (List.mem_append_left _ (List.mem_append_left _ (List.mem_append_left _ (List.mem_append_right _ h))))))))))))
theorem inX6 : ∀ w ∈ wsX60, w ∈ lw_tbl := fun w h => wsL_law_in w (inlX6 w h)
theorem inJx145de : ∀ w ∈ wsJx145de0, w ∈ lw_tbl := by decide +kernel
theorem inJx00060 : ∀ w ∈ wsJx000600, w ∈ lw_tbl := by decide +kernel
theorem inJxb160c : ∀ w ∈ wsJxb160c0, w ∈ lw_tbl := by decide +kernel
theorem inJxf58ca : ∀ w ∈ wsJxf58ca0, w ∈ lw_tbl := by decide +kernel
theorem inJ9 : ∀ w ∈ wsJ90, w ∈ lw_tbl := by decide +kernel
theorem inJxd2413 : ∀ w ∈ wsJxd24130, w ∈ lw_tbl := by decide +kernel
theorem inJ0 : ∀ w ∈ wsJ00, w ∈ lw_tbl := by decide +kernel
theorem inJ10 : ∀ w ∈ wsJ100, w ∈ lw_tbl := by decide +kernel
theorem inJxfd54e : ∀ w ∈ wsJxfd54e0, w ∈ lw_tbl := by decide +kernel
theorem inJx3cf43 : ∀ w ∈ wsJx3cf430, w ∈ lw_tbl := by decide +kernel
