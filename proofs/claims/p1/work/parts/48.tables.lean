/-! the words among the tables -/
theorem k_pl {big ws : List Cond} (ps : List Nat) (hp : ws = ps.filterMap (fun i => big[i]?)) : ∀ w ∈ ws, w ∈ big := by
  intro w hw
  rw [hp] at hw
  obtain ⟨i, -, hi⟩ := List.mem_filterMap.mp hw
  exact List.mem_of_getElem? hi
set_option maxRecDepth 1000000 in
theorem kt_1 : ∀ w ∈ wsL_law_r1, w ∈ lw_tbl := k_pl [87, 88, 66, 926, 927, 79, 89, 90, 91, 92, 93, 94, 95, 96, 68, 105, 107, 108, 69, 114, 115, 70, 121, 122] rfl
set_option maxRecDepth 1000000 in
theorem kt_2 : ∀ w ∈ wsL_law_r2, w ∈ lw_tbl := k_pl [71, 329, 128, 129, 72, 330, 144, 145, 73, 332, 333, 334, 335, 243, 244, 76, 331, 269, 270, 77, 336, 191, 337, 338] rfl
set_option maxRecDepth 1000000 in
theorem kt_3 : ∀ w ∈ wsL_law_r3, w ∈ lw_tbl := k_pl [340, 341, 328, 342, 343, 344, 345, 301, 347, 303, 78, 348, 98, 99, 101, 67, 102, 103, 110, 111, 117, 118, 124, 125] rfl
set_option maxRecDepth 1000000 in
theorem kt_4 : ∀ w ∈ wsL_law_r4, w ∈ lw_tbl := k_pl [130, 131, 132, 133, 143, 134, 146, 147, 148, 149, 150, 197, 152, 74, 204, 207, 195, 213, 218, 153, 154, 155, 156, 157] rfl
set_option maxRecDepth 1000000 in
theorem kt_5 : ∀ w ∈ wsL_law_r5, w ∈ lw_tbl := k_pl [174, 192, 193, 75, 194, 245, 246, 247, 248, 249, 250, 251, 271, 272, 273, 274, 276, 277, 278, 279, 280, 275, 281, 304] rfl
set_option maxRecDepth 1000000 in
theorem kt_6 : ∀ w ∈ wsL_law_r6, w ∈ lw_tbl := k_pl [305, 306, 307, 313, 315, 928, 929, 930, 931, 933, 934, 935, 936, 938, 940, 941, 942, 950, 951, 952, 953, 955, 960, 961] rfl
set_option maxRecDepth 1000000 in
theorem kt_7 : ∀ w ∈ wsL_law_r7, w ∈ lw_tbl := k_pl [962, 963, 964, 965, 966, 968, 969, 970, 971, 972, 973, 974, 975, 390, 391, 392, 393, 394, 395, 396, 397, 135, 1065, 1066] rfl
set_option maxRecDepth 1000000 in
theorem kt_8 : ∀ w ∈ wsL_law_r8, w ∈ lw_tbl := k_pl [1067, 1068, 1069, 943, 1070, 1071, 1072, 398, 399, 400, 401, 1073, 1074, 1075, 1076, 402, 403, 404, 405, 406, 407, 408, 409, 253] rfl
set_option maxRecDepth 1000000 in
theorem kt_9 : ∀ w ∈ wsL_law_r9, w ∈ lw_tbl := k_pl [254, 252, 410, 411, 412, 413, 200, 209, 421, 420, 419, 80, 215, 221, 414, 415, 416, 417, 161, 164, 167, 171, 418, 422] rfl
set_option maxRecDepth 1000000 in
theorem kt_10 : ∀ w ∈ wsL_law_r10, w ∈ lw_tbl := k_pl [424, 0, 425, 426, 427, 428, 429, 430, 431, 432, 433, 435, 1, 436, 438, 440, 2, 441, 442, 443, 444, 81, 445, 1435] rfl
set_option maxRecDepth 1000000 in
theorem kt_11 : ∀ w ∈ wsL_law_r11, w ∈ lw_tbl := k_pl [446, 447, 448, 449, 450, 1436, 452, 453, 454, 455, 456, 457, 458, 459, 460, 461, 82, 462, 463, 464, 465, 466, 468, 469] rfl
set_option maxRecDepth 1000000 in
theorem kt_12 : ∀ w ∈ wsL_law_r12, w ∈ lw_tbl := k_pl [83, 470, 471, 472, 84, 473, 474, 475, 476, 477, 478, 479, 480, 481, 482, 483, 484, 486, 488, 490, 491, 492, 493, 495] rfl
set_option maxRecDepth 1000000 in
theorem kt_13 : ∀ w ∈ wsL_law_r13, w ∈ lw_tbl := k_pl [497, 3, 498, 499, 501, 4, 502, 503, 504, 505, 506, 508, 510, 5, 511, 512, 513, 514, 515, 517, 519, 6, 520, 522] rfl
set_option maxRecDepth 1000000 in
theorem kt_14 : ∀ w ∈ wsL_law_r14, w ∈ lw_tbl := k_pl [524, 7, 525, 526, 528, 529, 530, 531, 533, 534, 535, 537, 538, 539, 541, 542, 543, 545, 547, 8, 548, 549, 550, 551] rfl
set_option maxRecDepth 1000000 in
theorem kt_15 : ∀ w ∈ wsL_law_r15, w ∈ lw_tbl := k_pl [552, 553, 554, 555, 556, 557, 1077, 1078, 1079, 1080, 946, 1081, 1083, 24, 1084, 944, 945, 958, 1085, 1087, 25, 1088, 932, 949] rfl
set_option maxRecDepth 1000000 in
theorem kt_16 : ∀ w ∈ wsL_law_r16, w ∈ lw_tbl := k_pl [937, 954, 939, 956, 957, 1089, 1091, 26, 1092, 947, 948, 1093, 1095, 27, 1096, 1097, 1098, 1099, 1101, 28, 1102, 1103, 1104, 1105] rfl
set_option maxRecDepth 1000000 in
theorem kt_17 : ∀ w ∈ wsL_law_r17, w ∈ lw_tbl := k_pl [1107, 29, 1108, 1115, 1116, 1117, 1118, 1127, 1132, 1137, 1142, 1147, 1109, 1111, 30, 1112, 1113, 1114, 1119, 1121, 31, 1122, 1123, 1125] rfl
set_option maxRecDepth 1000000 in
theorem kt_18 : ∀ w ∈ wsL_law_r18, w ∈ lw_tbl := k_pl [32, 1126, 1128, 1130, 33, 1131, 1133, 1135, 34, 1136, 1138, 1140, 35, 1141, 1143, 1145, 36, 1146, 1148, 1150, 37, 1151, 559, 560] rfl
set_option maxRecDepth 1000000 in
theorem kt_19 : ∀ w ∈ wsL_law_r19, w ∈ lw_tbl := k_pl [561, 562, 346, 339, 563, 1152, 1153, 1154, 1155, 1156, 1158, 38, 1159, 967, 959, 564, 565, 566, 567, 568, 569, 571, 572, 573] rfl
set_option maxRecDepth 1000000 in
theorem kt_20 : ∀ w ∈ wsL_law_r20, w ∈ lw_tbl := k_pl [574, 575, 576, 577, 578, 579, 580, 581, 582, 583, 584, 585, 586, 587, 588, 589, 590, 591, 592, 593, 594, 595, 596, 597] rfl
set_option maxRecDepth 1000000 in
theorem kt_21 : ∀ w ∈ wsL_law_r21, w ∈ lw_tbl := k_pl [598, 599, 600, 602, 603, 604, 605, 606, 607, 608, 609, 1426, 120, 610, 611, 612, 613, 614, 615, 113, 616, 1160, 1161, 1162] rfl
set_option maxRecDepth 1000000 in
theorem kt_22 : ∀ w ∈ wsL_law_r22, w ∈ lw_tbl := k_pl [1163, 1164, 1166, 39, 1167, 1168, 1170, 40, 1171, 1172, 1174, 41, 1175, 1176, 1178, 42, 1179, 1180, 1181, 1182, 617, 618, 619, 620] rfl
set_option maxRecDepth 1000000 in
theorem kt_23 : ∀ w ∈ wsL_law_r23, w ∈ lw_tbl := k_pl [1183, 1184, 1185, 1186, 1187, 621, 622, 623, 624, 625, 626, 627, 628, 1188, 1189, 1190, 1191, 1192, 1194, 43, 1195, 629, 630, 631] rfl
set_option maxRecDepth 1000000 in
theorem kt_24 : ∀ w ∈ wsL_law_r24, w ∈ lw_tbl := k_pl [632, 1196, 1197, 1198, 1199, 1200, 633, 634, 635, 636, 637, 638, 639, 95, 107, 114, 121, 640, 642, 643, 644, 645, 646, 647] rfl
set_option maxRecDepth 1000000 in
theorem kt_25 : ∀ w ∈ wsL_law_r25, w ∈ lw_tbl := k_pl [648, 649, 650, 651, 653, 654, 85, 655, 652, 1427, 656, 1201, 1202, 1203, 1204, 1205, 1206, 1207, 1208, 657, 658, 659, 660, 661] rfl
set_option maxRecDepth 1000000 in
theorem kt_26 : ∀ w ∈ wsL_law_r26, w ∈ lw_tbl := k_pl [663, 9, 664, 665, 1209, 1210, 1211, 1212, 1213, 1215, 44, 1216, 1217, 1219, 45, 1220, 666, 667, 668, 669, 1221, 1222, 1223, 1224] rfl
set_option maxRecDepth 1000000 in
theorem kt_27 : ∀ w ∈ wsL_law_r27, w ∈ lw_tbl := k_pl [670, 671, 672, 673, 1225, 1226, 1227, 1228, 674, 675, 676, 677, 678, 1229, 1230, 1231, 1232, 679, 680, 681, 682, 1233, 1234, 1235] rfl
set_option maxRecDepth 1000000 in
theorem kt_28 : ∀ w ∈ wsL_law_r28, w ∈ lw_tbl := k_pl [1236, 1237, 683, 684, 685, 686, 687, 688, 689, 690, 691, 693, 10, 694, 695, 697, 11, 698, 724, 699, 700, 701, 702, 704] rfl
set_option maxRecDepth 1000000 in
theorem kt_29 : ∀ w ∈ wsL_law_r29, w ∈ lw_tbl := k_pl [12, 705, 706, 707, 708, 709, 710, 712, 713, 714, 715, 716, 717, 718, 719, 1428, 720, 721, 722, 723, 1238, 1239, 1240, 1241] rfl
set_option maxRecDepth 1000000 in
theorem kt_30 : ∀ w ∈ wsL_law_r30, w ∈ lw_tbl := k_pl [1242, 1243, 1245, 46, 1246, 1247, 1249, 47, 1250, 1251, 1253, 48, 1254, 1255, 1257, 49, 1258, 1259, 1260, 1261, 725, 726, 727, 728] rfl
set_option maxRecDepth 1000000 in
theorem kt_31 : ∀ w ∈ wsL_law_r31, w ∈ lw_tbl := k_pl [1262, 1263, 1264, 1265, 729, 730, 731, 732, 733, 734, 735, 736, 737, 1266, 1267, 1268, 1269, 738, 739, 740, 741, 1270, 1271, 1272] rfl
set_option maxRecDepth 1000000 in
theorem kt_32 : ∀ w ∈ wsL_law_r32, w ∈ lw_tbl := k_pl [1273, 742, 743, 744, 745, 746, 747, 748, 749, 750, 751, 1274, 1275, 1276, 1277, 1278, 1279, 1281, 50, 1282, 1283, 1285, 51, 1286] rfl
set_option maxRecDepth 1000000 in
theorem kt_33 : ∀ w ∈ wsL_law_r33, w ∈ lw_tbl := k_pl [1287, 1289, 52, 1290, 752, 753, 754, 755, 756, 757, 758, 759, 1291, 1292, 1293, 1294, 1295, 1297, 53, 1298, 1299, 1301, 54, 1302] rfl
set_option maxRecDepth 1000000 in
theorem kt_34 : ∀ w ∈ wsL_law_r34, w ∈ lw_tbl := k_pl [760, 761, 762, 763, 764, 766, 13, 767, 768, 769, 86, 770, 771, 772, 773, 774, 776, 14, 777, 1303, 1304, 1305, 1306, 1307] rfl
set_option maxRecDepth 1000000 in
theorem kt_35 : ∀ w ∈ wsL_law_r35, w ∈ lw_tbl := k_pl [1308, 1309, 1310, 1311, 1313, 55, 1314, 1315, 1316, 1317, 778, 779, 780, 781, 782, 783, 784, 785, 282, 786, 787, 789, 15, 790] rfl
set_option maxRecDepth 1000000 in
theorem kt_36 : ∀ w ∈ wsL_law_r36, w ∈ lw_tbl := k_pl [791, 793, 16, 794, 795, 796, 797, 799, 17, 800, 801, 802, 804, 18, 805, 806, 808, 19, 809, 810, 812, 20, 813, 814] rfl
set_option maxRecDepth 1000000 in
theorem kt_37 : ∀ w ∈ wsL_law_r37, w ∈ lw_tbl := k_pl [815, 816, 817, 1318, 1319, 1320, 1321, 1322, 1324, 56, 1325, 1326, 1328, 57, 1329, 1330, 1332, 58, 1333, 1334, 1336, 59, 1337, 1338] rfl
set_option maxRecDepth 1000000 in
theorem kt_38 : ∀ w ∈ wsL_law_r38, w ∈ lw_tbl := k_pl [1340, 60, 1341, 818, 819, 820, 821, 1342, 1343, 1344, 1345, 822, 823, 824, 825, 1346, 1347, 1348, 1349, 1350, 826, 827, 828, 829] rfl
set_option maxRecDepth 1000000 in
theorem kt_39 : ∀ w ∈ wsL_law_r39, w ∈ lw_tbl := k_pl [1351, 1352, 1353, 1354, 830, 831, 832, 833, 834, 836, 21, 837, 1355, 1356, 1357, 1358, 838, 839, 840, 841, 842, 843, 844, 845] rfl
set_option maxRecDepth 1000000 in
theorem kt_40 : ∀ w ∈ wsL_law_r40, w ∈ lw_tbl := k_pl [846, 847, 848, 849, 850, 1359, 1360, 1361, 1362, 1363, 1364, 1365, 1366, 1367, 1368, 1369, 1370, 1371, 1372, 1373, 1374, 851, 852, 853] rfl
set_option maxRecDepth 1000000 in
theorem kt_41 : ∀ w ∈ wsL_law_r41, w ∈ lw_tbl := k_pl [854, 855, 857, 22, 858, 859, 860, 861, 862, 308, 310, 311, 863, 1375, 1376, 1377, 1378, 1382, 1379, 1380, 1381, 864, 865, 866] rfl
set_option maxRecDepth 1000000 in
theorem kt_42 : ∀ w ∈ wsL_law_r42, w ∈ lw_tbl := k_pl [867, 868, 869, 870, 871, 872, 873, 874, 875, 876, 877, 878, 879, 880, 881, 882, 883, 1383, 1384, 1385, 1386, 1387, 1388, 1389] rfl
set_option maxRecDepth 1000000 in
theorem kt_43 : ∀ w ∈ wsL_law_r43, w ∈ lw_tbl := k_pl [1391, 61, 1392, 884, 885, 886, 887, 1393, 1394, 1395, 1396, 888, 889, 890, 891, 892, 893, 894, 895, 896, 1397, 1398, 1399, 1400] rfl
set_option maxRecDepth 1000000 in
theorem kt_44 : ∀ w ∈ wsL_law_r44, w ∈ lw_tbl := k_pl [897, 898, 899, 900, 901, 902, 903, 904, 1401, 1402, 1403, 1404, 905, 906, 907, 908, 909, 1405, 1406, 1407, 1408, 1409, 910, 911] rfl
set_option maxRecDepth 1000000 in
theorem kt_45 : ∀ w ∈ wsL_law_r45, w ∈ lw_tbl := k_pl [912, 913, 914, 915, 916, 917, 918, 920, 23, 921, 922, 923, 924, 925, 1410, 1411, 1412, 1413, 1414, 1416, 62, 1417, 1418, 1420] rfl
set_option maxRecDepth 1000000 in
theorem kt_46 : ∀ w ∈ wsL_law_r46, w ∈ lw_tbl := k_pl [63, 1421, 1422, 1424, 64, 1425] rfl
set_option maxRecDepth 1000000 in
theorem kt_wsX110 : ∀ w ∈ wsX110, w ∈ lw_tbl := k_pl [349, 351, 353, 355, 357, 359, 361, 363, 365, 367, 369, 371, 373, 375, 377, 379, 381, 383, 385, 387] rfl
set_option maxRecDepth 1000000 in
theorem kt_wsX120 : ∀ w ∈ wsX120, w ∈ lw_tbl := k_pl [976, 978, 980, 982, 984, 986, 988, 990, 992, 994, 996, 998, 1000, 1002, 1004, 1006, 1008, 1010, 1012, 1014, 1016, 1018, 1020, 1022, 1024, 1026, 1028, 1030, 1032, 1034, 1036, 1038, 1040, 1042, 1044, 1046, 1048, 1050, 1052, 1054, 1056, 1058, 1060, 1062] rfl
set_option maxRecDepth 1000000 in
theorem kt_wsX100 : ∀ w ∈ wsX100, w ∈ lw_tbl := k_pl [] rfl
set_option maxRecDepth 1000000 in
theorem kt_wsX90 : ∀ w ∈ wsX90, w ∈ lw_tbl := k_pl [] rfl
set_option maxRecDepth 1000000 in
theorem kt_wsX30 : ∀ w ∈ wsX30, w ∈ lw_tbl := k_pl [] rfl
set_option maxRecDepth 1000000 in
theorem kt_wsX00 : ∀ w ∈ wsX00, w ∈ lw_tbl := k_pl [] rfl
set_option maxRecDepth 1000000 in
theorem kt_wsX80 : ∀ w ∈ wsX80, w ∈ lw_tbl := k_pl [138, 140] rfl
set_option maxRecDepth 1000000 in
theorem kt_wsX20 : ∀ w ∈ wsX20, w ∈ lw_tbl := k_pl [224, 226, 228, 230, 232, 234, 236, 238, 240] rfl
set_option maxRecDepth 1000000 in
theorem kt_wsX70 : ∀ w ∈ wsX70, w ∈ lw_tbl := k_pl [256, 258, 260, 262, 264, 266] rfl
set_option maxRecDepth 1000000 in
theorem kt_wsX60 : ∀ w ∈ wsX60, w ∈ lw_tbl := k_pl [284, 286, 288, 290, 292, 294, 296] rfl
set_option maxRecDepth 1000000 in
theorem kt_wsX50 : ∀ w ∈ wsX50, w ∈ lw_tbl := k_pl [317, 319, 321, 323, 325] rfl
set_option maxRecDepth 1000000 in
theorem kt_wsX10 : ∀ w ∈ wsX10, w ∈ lw_tbl := k_pl [178, 180, 182, 184, 186, 188] rfl
set_option maxRecDepth 1000000 in
theorem kt_all : ∀ w ∈ wsL_law, w ∈ lw_tbl := List.forall_mem_append.mpr ⟨List.forall_mem_append.mpr ⟨List.forall_mem_append.mpr ⟨List.forall_mem_append.mpr ⟨List.forall_mem_append.mpr ⟨List.forall_mem_append.mpr ⟨List.forall_mem_append.mpr ⟨List.forall_mem_append.mpr ⟨List.forall_mem_append.mpr ⟨List.forall_mem_append.mpr ⟨List.forall_mem_append.mpr ⟨List.forall_mem_append.mpr ⟨List.forall_mem_append.mpr ⟨List.forall_mem_append.mpr ⟨kt_1, List.forall_mem_append.mpr ⟨kt_2, List.forall_mem_append.mpr ⟨kt_3, List.forall_mem_append.mpr ⟨kt_4, List.forall_mem_append.mpr ⟨kt_5, List.forall_mem_append.mpr ⟨kt_6, List.forall_mem_append.mpr ⟨kt_7, List.forall_mem_append.mpr ⟨kt_8, List.forall_mem_append.mpr ⟨kt_9, List.forall_mem_append.mpr ⟨kt_10, List.forall_mem_append.mpr ⟨kt_11, List.forall_mem_append.mpr ⟨kt_12, List.forall_mem_append.mpr ⟨kt_13, List.forall_mem_append.mpr ⟨kt_14, List.forall_mem_append.mpr ⟨kt_15, List.forall_mem_append.mpr ⟨kt_16, List.forall_mem_append.mpr ⟨kt_17, List.forall_mem_append.mpr ⟨kt_18, List.forall_mem_append.mpr ⟨kt_19, List.forall_mem_append.mpr ⟨kt_20, List.forall_mem_append.mpr ⟨kt_21, List.forall_mem_append.mpr ⟨kt_22, List.forall_mem_append.mpr ⟨kt_23, List.forall_mem_append.mpr ⟨kt_24, List.forall_mem_append.mpr ⟨kt_25, List.forall_mem_append.mpr ⟨kt_26, List.forall_mem_append.mpr ⟨kt_27, List.forall_mem_append.mpr ⟨kt_28, List.forall_mem_append.mpr ⟨kt_29, List.forall_mem_append.mpr ⟨kt_30, List.forall_mem_append.mpr ⟨kt_31, List.forall_mem_append.mpr ⟨kt_32, List.forall_mem_append.mpr ⟨kt_33, List.forall_mem_append.mpr ⟨kt_34, List.forall_mem_append.mpr ⟨kt_35, List.forall_mem_append.mpr ⟨kt_36, List.forall_mem_append.mpr ⟨kt_37, List.forall_mem_append.mpr ⟨kt_38, List.forall_mem_append.mpr ⟨kt_39, List.forall_mem_append.mpr ⟨kt_40, List.forall_mem_append.mpr ⟨kt_41, List.forall_mem_append.mpr ⟨kt_42, List.forall_mem_append.mpr ⟨kt_43, List.forall_mem_append.mpr ⟨kt_44, List.forall_mem_append.mpr ⟨kt_45, kt_46⟩⟩⟩⟩⟩⟩⟩⟩⟩⟩⟩⟩⟩⟩⟩⟩⟩⟩⟩⟩⟩⟩⟩⟩⟩⟩⟩⟩⟩⟩⟩⟩⟩⟩⟩⟩⟩⟩⟩⟩⟩⟩⟩⟩⟩, kt_wsX110⟩, kt_wsX120⟩, kt_wsX100⟩, kt_wsX90⟩, kt_wsX30⟩, kt_wsX00⟩, kt_wsX80⟩, kt_wsX20⟩, kt_wsX70⟩, kt_wsX60⟩, kt_wsX50⟩, kt_wsX10⟩, fun _ h => absurd h List.not_mem_nil⟩
set_option maxRecDepth 1000000 in
theorem kt_F : ∀ w ∈ q_nF.map (fun w => Cond.fieldLinkNest w.1 w.2.1 w.2.2.1 w.2.2.2.1 w.2.2.2.2 "CloudLaundry"), w ∈ lw_tbl := k_pl [136, 137, 158, 159, 160, 162, 163, 165, 166, 168, 169, 170, 172, 173, 175, 176, 177, 198, 199, 201, 202, 203, 205, 206, 208, 210, 211, 212, 214, 216, 217, 219, 220, 222, 223, 255, 283, 309, 312, 314, 316] rfl
set_option maxRecDepth 1000000 in
theorem kt_M : ∀ w ∈ q_nM.map (fun w => Cond.methodLinkNest w.1 w.2.1 w.2.2 "CloudLaundry"), w ∈ lw_tbl := k_pl [97, 100, 109, 112, 116, 119, 123, 126] rfl
set_option maxRecDepth 1000000 in
theorem kt_D : ∀ w ∈ q_nD.map (fun w => Cond.declares w), w ∈ lw_tbl := k_pl [570, 527, 641, 711, 601] rfl
set_option maxRecDepth 1000000 in
theorem kt_C : ∀ w ∈ q_nC.map (fun w => Cond.castable w.1 w.2), w ∈ lw_tbl := k_pl [1430, 1429, 1431, 1432, 1433, 1434] rfl
set_option maxRecDepth 1000000 in
theorem kt_O : ∀ w ∈ q_nO.map (fun w => Cond.arrayOver (.object w)), w ∈ lw_tbl := k_pl [106, 299, 300, 302, 151] rfl
set_option maxRecDepth 1000000 in
theorem kt_A : Cond.arrayOver (.array .int) ∈ lw_tbl := List.mem_of_getElem? (i := 196) rfl
set_option maxRecDepth 1000000 in
theorem kt_T : ∀ w ∈ q_tx.map (fun w => Cond.stringRef w.1 w.2.1 w.2.2), w ∈ lw_tbl := k_pl [437, 494, 507, 516, 521, 532, 536, 540, 544] rfl
set_option maxRecDepth 1000000 in
theorem kt_s1 : Cond.laysStatic "java/lang/String" "COMPACT_STRINGS" "Z" ∈ lw_tbl := List.mem_of_getElem? (i := 451) rfl
set_option maxRecDepth 1000000 in
theorem kt_s2 : Cond.initialized "java/lang/String" ∈ lw_tbl := List.mem_of_getElem? (i := 81) rfl
set_option maxRecDepth 1000000 in
theorem kt_s3 : Cond.laysStatic "jdk/internal/util/Preconditions" "SIOOBE_FORMATTER" "Ljava/util/function/BiFunction;" ∈ lw_tbl := List.mem_of_getElem? (i := 467) rfl
set_option maxRecDepth 1000000 in
theorem kt_s4 : Cond.initialized "jdk/internal/util/Preconditions" ∈ lw_tbl := List.mem_of_getElem? (i := 83) rfl
