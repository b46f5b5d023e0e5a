/-! THE LAW'S OWN WORDS are words of the table -/
theorem in_r {big ws : List Cond} (ps : List Nat) (hp : ws = ps.filterMap (fun i => big[i]?)) : ∀ w ∈ ws, w ∈ big := by
  intro w hw
  rw [hp] at hw
  obtain ⟨i, -, hi⟩ := List.mem_filterMap.mp hw
  exact List.mem_of_getElem? hi
theorem in_app {big a b : List Cond} (ha : ∀ w ∈ a, w ∈ big) (hb : ∀ w ∈ b, w ∈ big) : ∀ w ∈ a ++ b, w ∈ big := fun w h => (List.mem_append.mp h).elim (ha w) (hb w)
set_option maxRecDepth 100000 in
theorem wl_r1 : ∀ w ∈ wsL_law0_r1, w ∈ lw_tbl := in_r [89, 90, 66, 984, 985, 75, 1401, 91, 92, 93, 94, 95, 96, 97, 98, 67, 396, 188, 189, 68, 397, 208, 209, 69] rfl
set_option maxRecDepth 100000 in
theorem wl_r2 : ∀ w ∈ wsL_law0_r2, w ∈ lw_tbl := in_r [398, 240, 241, 71, 399, 263, 264, 72, 400, 324, 325, 73, 401, 378, 379, 74, 402, 187, 403, 404, 405, 406, 99, 100] rfl
set_option maxRecDepth 100000 in
theorem wl_r3 : ∀ w ∈ wsL_law0_r3, w ∈ lw_tbl := in_r [101, 102, 105, 108, 111, 114, 117, 121, 124, 127, 130, 134, 137, 140, 143, 146, 149, 103, 152, 190, 191, 192, 193, 194] rfl
set_option maxRecDepth 100000 in
theorem wl_r4 : ∀ w ∈ wsL_law0_r4, w ∈ lw_tbl := in_r [197, 198, 199, 196, 210, 211, 212, 213, 214, 219, 222, 225, 226, 227, 216, 217, 70, 218, 243, 244, 245, 246, 248, 250] rfl
set_option maxRecDepth 100000 in
theorem wl_r5 : ∀ w ∈ wsL_law0_r5, w ∈ lw_tbl := in_r [252, 266, 267, 268, 323, 269, 270, 272, 273, 274, 276, 279, 281, 283, 285, 287, 289, 291, 293, 327, 328, 329, 330, 336] rfl
set_option maxRecDepth 100000 in
theorem wl_r6 : ∀ w ∈ wsL_law0_r6, w ∈ lw_tbl := in_r [332, 337, 334, 338, 339, 341, 343, 345, 347, 349, 351, 353, 331, 333, 381, 382, 383, 384, 386, 387, 986, 987, 988, 989] rfl
set_option maxRecDepth 100000 in
theorem wl_r7 : ∀ w ∈ wsL_law0_r7, w ∈ lw_tbl := in_r [990, 991, 996, 997, 999, 1000, 1001, 1002, 1003, 1004, 1005, 1006, 1007, 1008, 1009, 1135, 1013, 1014, 1015, 1016, 1017, 1018, 1019, 1023] rfl
set_option maxRecDepth 100000 in
theorem wl_r8 : ∀ w ∈ wsL_law0_r8, w ∈ lw_tbl := in_r [1024, 1032, 1033, 1034, 1036, 430, 431, 432, 433, 106, 109, 112, 115, 434, 435, 436, 437, 439, 0, 440, 441, 443, 1, 444] rfl
set_option maxRecDepth 100000 in
theorem wl_r9 : ∀ w ∈ wsL_law0_r9, w ∈ lw_tbl := in_r [445, 447, 2, 448, 449, 450, 451, 452, 460, 461, 77, 462, 453, 454, 455, 456, 457, 459, 458, 76, 1140, 1141, 1142, 1143] rfl
set_option maxRecDepth 100000 in
theorem wl_r10 : ∀ w ∈ wsL_law0_r10, w ∈ lw_tbl := in_r [994, 1144, 1146, 33, 1147, 1148, 1150, 34, 1151, 993, 1152, 1154, 35, 1155, 992, 1156, 1158, 36, 1159, 463, 464, 465, 466, 120] rfl
set_option maxRecDepth 100000 in
theorem wl_r11 : ∀ w ∈ wsL_law0_r11, w ∈ lw_tbl := in_r [132, 136, 138, 467, 1160, 1161, 1162, 1163, 468, 469, 470, 471, 472, 473, 474, 475, 1164, 1165, 1166, 1167, 476, 477, 478, 479] rfl
set_option maxRecDepth 100000 in
theorem wl_r12 : ∀ w ∈ wsL_law0_r12, w ∈ lw_tbl := in_r [1168, 1169, 1170, 1171, 480, 481, 482, 483, 123, 1172, 1173, 1174, 1175, 484, 485, 486, 487, 224, 129, 126, 228, 200, 388, 488] rfl
set_option maxRecDepth 100000 in
theorem wl_r13 : ∀ w ∈ wsL_law0_r13, w ∈ lw_tbl := in_r [490, 3, 491, 492, 493, 494, 495, 119, 496, 497, 498, 499, 500, 501, 503, 4, 504, 131, 135, 122, 506, 507, 508, 510] rfl
set_option maxRecDepth 100000 in
theorem wl_r14 : ∀ w ∈ wsL_law0_r14, w ∈ lw_tbl := in_r [5, 511, 512, 514, 6, 515, 107, 110, 516, 518, 7, 519, 139, 113, 116, 520, 522, 8, 523, 125, 141, 524, 525, 526] rfl
set_option maxRecDepth 100000 in
theorem wl_r15 : ∀ w ∈ wsL_law0_r15, w ∈ lw_tbl := in_r [144, 527, 147, 528, 529, 530, 531, 150, 1176, 1177, 1178, 1179, 998, 1035, 1180, 1182, 37, 1183, 1184, 1186, 38, 1187, 1188, 1190] rfl
set_option maxRecDepth 100000 in
theorem wl_r16 : ∀ w ∈ wsL_law0_r16, w ∈ lw_tbl := in_r [39, 1191, 1192, 1194, 40, 1195, 1196, 1198, 41, 1199, 532, 533, 534, 535, 221, 1200, 1201, 1202, 1203, 536, 537, 538, 539, 540] rfl
set_option maxRecDepth 100000 in
theorem wl_r17 : ∀ w ∈ wsL_law0_r17, w ∈ lw_tbl := in_r [1204, 1205, 1206, 1207, 541, 542, 543, 544, 142, 145, 148, 545, 547, 9, 548, 1208, 1209, 1210, 1211, 1212, 1214, 42, 1215, 549] rfl
set_option maxRecDepth 100000 in
theorem wl_r18 : ∀ w ∈ wsL_law0_r18, w ∈ lw_tbl := in_r [550, 551, 552, 1216, 1217, 1218, 1219, 553, 554, 555, 556, 271, 557, 558, 559, 560, 561, 562, 563, 564, 1220, 1221, 1222, 1223] rfl
set_option maxRecDepth 100000 in
theorem wl_r19 : ∀ w ∈ wsL_law0_r19, w ∈ lw_tbl := in_r [1010, 565, 566, 567, 568, 153, 569, 570, 571, 572, 573, 690, 691, 84, 574, 576, 10, 577, 578, 580, 11, 581, 582, 584] rfl
set_option maxRecDepth 100000 in
theorem wl_r20 : ∀ w ∈ wsL_law0_r20, w ∈ lw_tbl := in_r [12, 585, 587, 589, 13, 590, 591, 592, 593, 78, 594, 1403, 595, 596, 597, 598, 599, 1404, 601, 602, 603, 604, 605, 606] rfl
set_option maxRecDepth 100000 in
theorem wl_r21 : ∀ w ∈ wsL_law0_r21, w ∈ lw_tbl := in_r [607, 608, 609, 610, 79, 611, 612, 613, 614, 615, 617, 618, 80, 619, 620, 621, 81, 622, 623, 624, 625, 626, 627, 628] rfl
set_option maxRecDepth 100000 in
theorem wl_r22 : ∀ w ∈ wsL_law0_r22, w ∈ lw_tbl := in_r [629, 630, 631, 632, 633, 635, 637, 640, 642, 14, 643, 644, 646, 15, 647, 648, 650, 16, 651, 652, 654, 17, 655, 656] rfl
set_option maxRecDepth 100000 in
theorem wl_r23 : ∀ w ∈ wsL_law0_r23, w ∈ lw_tbl := in_r [658, 18, 659, 660, 661, 662, 663, 665, 19, 666, 667, 669, 20, 670, 1405, 673, 675, 21, 676, 677, 679, 22, 680, 1406] rfl
set_option maxRecDepth 100000 in
theorem wl_r24 : ∀ w ∈ wsL_law0_r24, w ∈ lw_tbl := in_r [681, 683, 23, 684, 685, 687, 24, 688, 692, 693, 694, 695, 278, 708, 280, 711, 286, 282, 713, 288, 284, 715, 290, 717] rfl
set_option maxRecDepth 100000 in
theorem wl_r25 : ∀ w ∈ wsL_law0_r25, w ∈ lw_tbl := in_r [292, 718, 696, 697, 698, 699, 700, 701, 702, 703, 705, 706, 707, 1224, 1225, 1226, 1227, 1011, 995, 1228, 1230, 43, 1231, 1232] rfl
set_option maxRecDepth 100000 in
theorem wl_r26 : ∀ w ∈ wsL_law0_r26, w ∈ lw_tbl := in_r [1234, 44, 1235, 1012, 1236, 1238, 45, 1239, 1240, 1242, 46, 1243, 1244, 1246, 47, 1247, 1252, 1253, 1248, 1250, 48, 1251, 1254, 1256] rfl
set_option maxRecDepth 100000 in
theorem wl_r27 : ∀ w ∈ wsL_law0_r27, w ∈ lw_tbl := in_r [49, 1257, 1258, 1260, 50, 1261, 1262, 1264, 51, 1265, 1266, 1268, 52, 1269, 1270, 1272, 53, 1273, 1274, 1276, 54, 1277, 1278, 1280] rfl
set_option maxRecDepth 100000 in
theorem wl_r28 : ∀ w ∈ wsL_law0_r28, w ∈ lw_tbl := in_r [55, 1281, 1282, 1284, 56, 1285, 732, 733, 734, 735, 275, 1286, 1287, 1288, 1289, 736, 737, 738, 739, 1290, 1291, 1292, 1293, 740] rfl
set_option maxRecDepth 100000 in
theorem wl_r29 : ∀ w ∈ wsL_law0_r29, w ∈ lw_tbl := in_r [741, 742, 743, 744, 745, 746, 747, 128, 748, 749, 750, 751, 753, 754, 755, 756, 223, 709, 757, 758, 759, 760, 761, 762] rfl
set_option maxRecDepth 100000 in
theorem wl_r30 : ∀ w ∈ wsL_law0_r30, w ∈ lw_tbl := in_r [763, 764, 765, 766, 767, 768, 220, 769, 771, 25, 772, 773, 1294, 1295, 1296, 1297, 1298, 1300, 57, 1301, 1302, 1304, 58, 1305] rfl
set_option maxRecDepth 100000 in
theorem wl_r31 : ∀ w ∈ wsL_law0_r31, w ∈ lw_tbl := in_r [1020, 1021, 1022, 1306, 1308, 59, 1309, 1310, 1312, 60, 1313, 1314, 1316, 61, 1317, 774, 775, 776, 777, 247, 249, 251, 253, 778] rfl
set_option maxRecDepth 100000 in
theorem wl_r32 : ∀ w ∈ wsL_law0_r32, w ∈ lw_tbl := in_r [780, 26, 781, 782, 783, 1318, 1319, 1320, 1321, 784, 785, 786, 787, 710, 714, 716, 712, 1322, 1323, 1324, 1325, 788, 789, 790] rfl
set_option maxRecDepth 100000 in
theorem wl_r33 : ∀ w ∈ wsL_law0_r33, w ∈ lw_tbl := in_r [791, 151, 1326, 1327, 1328, 1329, 792, 793, 794, 795, 350, 354, 796, 797, 798, 799, 118, 800, 801, 802, 804, 27, 805, 806] rfl
set_option maxRecDepth 100000 in
theorem wl_r34 : ∀ w ∈ wsL_law0_r34, w ∈ lw_tbl := in_r [808, 28, 809, 810, 812, 29, 813, 133, 814, 815, 816, 818, 30, 819, 821, 820, 1330, 1331, 1332, 1333, 1025, 1026, 1030, 1031] rfl
set_option maxRecDepth 100000 in
theorem wl_r35 : ∀ w ∈ wsL_law0_r35, w ∈ lw_tbl := in_r [1028, 1029, 1334, 1336, 62, 1337, 1027, 822, 823, 824, 825, 344, 348, 352, 826, 827, 828, 829, 1338, 1339, 1340, 1341, 830, 831] rfl
set_option maxRecDepth 100000 in
theorem wl_r36 : ∀ w ∈ wsL_law0_r36, w ∈ lw_tbl := in_r [832, 833, 346, 342, 1342, 1343, 1344, 1345, 834, 835, 836, 837, 340, 1346, 1347, 1348, 1349, 838, 839, 840, 841, 846, 842, 843] rfl
set_option maxRecDepth 100000 in
theorem wl_r37 : ∀ w ∈ wsL_law0_r37, w ∈ lw_tbl := in_r [844, 845, 847, 848, 849, 850, 1350, 1351, 1352, 1353, 1354, 1355, 1357, 63, 1358, 1359, 1360, 851, 852, 853, 854, 385, 1361, 1362] rfl
set_option maxRecDepth 100000 in
theorem wl_r38 : ∀ w ∈ wsL_law0_r38, w ∈ lw_tbl := in_r [1363, 1364, 855, 856, 857, 858, 1365, 1366, 1367, 1368, 859, 860, 861, 862, 863, 864, 865, 866, 867, 868, 869, 870, 871, 872] rfl
set_option maxRecDepth 100000 in
theorem wl_r39 : ∀ w ∈ wsL_law0_r39, w ∈ lw_tbl := in_r [876, 873, 874, 875, 1369, 1370, 1371, 1372, 877, 878, 879, 880, 881, 883, 31, 884, 885, 1373, 1374, 1375, 1376, 1037, 1377, 1379] rfl
set_option maxRecDepth 100000 in
theorem wl_r40 : ∀ w ∈ wsL_law0_r40, w ∈ lw_tbl := in_r [64, 1380, 911, 912, 65, 913, 914, 915, 916, 917, 918, 919, 88, 1381, 1382, 1383, 1384, 887, 888, 889, 890, 1385, 1386, 1387] rfl
set_option maxRecDepth 100000 in
theorem wl_r41 : ∀ w ∈ wsL_law0_r41, w ∈ lw_tbl := in_r [1388, 891, 892, 893, 894, 1389, 1390, 1391, 1392, 895, 896, 897, 898, 899, 900, 901, 902, 1136, 1137, 1138, 1139, 903, 904, 905] rfl
set_option maxRecDepth 100000 in
theorem wl_r42 : ∀ w ∈ wsL_law0_r42, w ∈ lw_tbl := in_r [906, 1393, 1394, 1395, 1396, 907, 908, 909, 910, 277, 1397, 1398, 1399, 1400] rfl
theorem wl_in0 : ∀ w ∈ wsL_law0, w ∈ lw_tbl := in_app (in_app (in_app (in_app (in_app (in_app (in_app (in_app (in_app (in_app (in_app (in_app wl_r1 (in_app wl_r2 (in_app wl_r3 (in_app wl_r4 (in_app wl_r5 (in_app wl_r6 (in_app wl_r7 (in_app wl_r8 (in_app wl_r9 (in_app wl_r10 (in_app wl_r11 (in_app wl_r12 (in_app wl_r13 (in_app wl_r14 (in_app wl_r15 (in_app wl_r16 (in_app wl_r17 (in_app wl_r18 (in_app wl_r19 (in_app wl_r20 (in_app wl_r21 (in_app wl_r22 (in_app wl_r23 (in_app wl_r24 (in_app wl_r25 (in_app wl_r26 (in_app wl_r27 (in_app wl_r28 (in_app wl_r29 (in_app wl_r30 (in_app wl_r31 (in_app wl_r32 (in_app wl_r33 (in_app wl_r34 (in_app wl_r35 (in_app wl_r36 (in_app wl_r37 (in_app wl_r38 (in_app wl_r39 (in_app wl_r40 (in_app wl_r41 wl_r42))))))))))))))))))))))))))))))))))))))))) st_in9) st_in10) st_in4) st_in3) st_in6) st_in8) st_in5) st_in7) st_in0) st_in1) (fun _ h => nomatch h)
theorem wl_x0 : ∀ w ∈ (vx_atX RX9 281 "java/util/NoSuchElementException" 13 nseC ["java/lang/RuntimeException", "java/lang/Exception"]).filter goodWord, w ∈ lw_tbl := by decide +kernel
theorem wl_in : ∀ w ∈ wsL_law, w ∈ lw_tbl := in_app wl_in0 wl_x0
