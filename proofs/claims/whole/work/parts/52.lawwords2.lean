set_option maxRecDepth 20000 in
theorem in_wsL_law_r24 : ∀ w ∈ wsL_law_r24, w ∈ lw_tbl := mem_idx [1124, 1126, 52, 1127, 1128, 1130, 53, 1131, 1132, 1133, 1134, 1135, 1137, 54, 1138, 558, 559, 560, 561, 562, 563, 564, 565, 566] (by decide +kernel)
set_option maxRecDepth 20000 in
theorem in_wsL_law_r25 : ∀ w ∈ wsL_law_r25, w ∈ lw_tbl := mem_idx [568, 12, 569, 570, 571, 572, 573, 1139, 1140, 1141, 1142, 1143, 1145, 55, 1146, 574, 575, 576, 577, 578, 579, 580, 581, 582] (by decide +kernel)
set_option maxRecDepth 20000 in
theorem in_wsL_law_r26 : ∀ w ∈ wsL_law_r26, w ∈ lw_tbl := mem_idx [583, 584, 585, 586, 588, 13, 589, 591, 592, 593, 590, 1147, 1148, 1149, 1150, 1151, 886, 1152, 1154, 56, 1155, 1156, 1158, 57] (by decide +kernel)
set_option maxRecDepth 20000 in
theorem in_wsL_law_r27 : ∀ w ∈ wsL_law_r27, w ∈ lw_tbl := mem_idx [1159, 594, 595, 596, 597, 598, 599, 600, 601, 602, 1160, 1161, 1162, 1163, 1164, 1165, 1166, 1167, 603, 604, 605, 606, 1168, 1169] (by decide +kernel)
set_option maxRecDepth 20000 in
theorem in_wsL_law_r28 : ∀ w ∈ wsL_law_r28, w ∈ lw_tbl := mem_idx [1170, 1171, 1172, 607, 608, 609, 610, 611, 612, 613, 614, 1173, 1174, 1175, 1176, 1177, 1179, 58, 1180, 615, 616, 617, 618, 619] (by decide +kernel)
set_option maxRecDepth 20000 in
theorem in_wsL_law_r29 : ∀ w ∈ wsL_law_r29, w ∈ lw_tbl := mem_idx [620, 621, 622, 1181, 1182, 1183, 1184, 1185, 1187, 59, 1188, 623, 624, 625, 626, 627, 1189, 1190, 1191, 1192, 628, 629, 630, 631] (by decide +kernel)
set_option maxRecDepth 20000 in
theorem in_wsL_law_r30 : ∀ w ∈ wsL_law_r30, w ∈ lw_tbl := mem_idx [160, 158, 632, 633, 634, 635, 102, 159, 636, 638, 14, 639, 640, 641, 643, 15, 644, 645, 646, 647, 648, 653, 649, 651] (by decide +kernel)
set_option maxRecDepth 20000 in
theorem in_wsL_law_r31 : ∀ w ∈ wsL_law_r31, w ∈ lw_tbl := mem_idx [16, 652, 1193, 1194, 1195, 1196, 1200, 1201, 888, 1197, 1198, 1199, 1202, 1204, 60, 1205, 1206, 1208, 61, 1209, 654, 655, 656, 657] (by decide +kernel)
set_option maxRecDepth 20000 in
theorem in_wsL_law_r32 : ∀ w ∈ wsL_law_r32, w ∈ lw_tbl := mem_idx [658, 659, 660, 661, 662, 1210, 1211, 1212, 1213, 663, 664, 665, 666, 667, 668, 669, 670, 671, 672, 673, 674, 86, 675, 676] (by decide +kernel)
set_option maxRecDepth 20000 in
theorem in_wsL_law_r33 : ∀ w ∈ wsL_law_r33, w ∈ lw_tbl := mem_idx [677, 678, 679, 1214, 1215, 1216, 1217, 1218, 1220, 62, 1221, 1222, 1224, 63, 1225, 680, 681, 682, 683, 684, 686, 17, 687, 1226] (by decide +kernel)
set_option maxRecDepth 20000 in
theorem in_wsL_law_r34 : ∀ w ∈ wsL_law_r34, w ∈ lw_tbl := mem_idx [1227, 1228, 1229, 688, 689, 690, 691, 1230, 1231, 1232, 1233, 692, 693, 694, 695, 696, 698, 18, 699, 1234, 1235, 1236, 1237, 1238] (by decide +kernel)
set_option maxRecDepth 20000 in
theorem in_wsL_law_r35 : ∀ w ∈ wsL_law_r35, w ∈ lw_tbl := mem_idx [1240, 64, 1241, 700, 701, 702, 703, 1242, 1243, 1244, 1245, 704, 705, 706, 707, 711, 708, 709, 710, 712, 713, 714, 715, 727] (by decide +kernel)
set_option maxRecDepth 20000 in
theorem in_wsL_law_r36 : ∀ w ∈ wsL_law_r36, w ∈ lw_tbl := mem_idx [731, 732, 733, 716, 717, 719, 19, 720, 108, 721, 722, 723, 724, 725, 726, 728, 729, 730, 1246, 1247, 1248, 1249, 1250, 1251] (by decide +kernel)
set_option maxRecDepth 20000 in
theorem in_wsL_law_r37 : ∀ w ∈ wsL_law_r37, w ∈ lw_tbl := mem_idx [889, 891, 1252, 1254, 65, 1255, 890, 1256, 1257, 1258, 1259, 1260, 1261, 734, 735, 736, 737, 1262, 1263, 1264, 1265, 738, 739, 740] (by decide +kernel)
set_option maxRecDepth 20000 in
theorem in_wsL_law_r38 : ∀ w ∈ wsL_law_r38, w ∈ lw_tbl := mem_idx [741, 742, 743, 744, 745, 175, 1266, 1267, 1268, 1269, 746, 747, 748, 749, 1270, 1271, 1272, 1273, 750, 751, 752, 753, 754, 755] (by decide +kernel)
set_option maxRecDepth 20000 in
theorem in_wsL_law_r39 : ∀ w ∈ wsL_law_r39, w ∈ lw_tbl := mem_idx [756, 757, 109, 758, 760, 20, 761, 762, 763, 765, 21, 766, 767, 768, 1274, 1275, 1276, 1277, 1278, 1280, 66, 1281, 1282, 1284] (by decide +kernel)
set_option maxRecDepth 20000 in
theorem in_wsL_law_r40 : ∀ w ∈ wsL_law_r40, w ∈ lw_tbl := mem_idx [67, 1285, 769, 770, 771, 772, 773, 775, 22, 776, 1286, 1287, 1288, 1289, 777, 778, 779, 780, 781, 783, 23, 784, 785, 786] (by decide +kernel)
set_option maxRecDepth 20000 in
theorem in_wsL_law_r41 : ∀ w ∈ wsL_law_r41, w ∈ lw_tbl := mem_idx [787, 788, 1290, 1291, 1292, 1293, 789, 790, 791, 792, 793, 1294, 1295, 1296, 1297, 1298, 794, 795, 796, 797, 199, 201, 798, 799] (by decide +kernel)
set_option maxRecDepth 20000 in
theorem in_wsL_law_r42 : ∀ w ∈ wsL_law_r42, w ∈ lw_tbl := mem_idx [800, 801, 802, 1299, 1300, 1301, 1302, 1303, 1305, 68, 1306, 803, 804, 805, 806, 1307, 1308, 1309, 1310, 807, 808, 809, 810, 811] (by decide +kernel)
set_option maxRecDepth 20000 in
theorem in_wsL_law_r43 : ∀ w ∈ wsL_law_r43, w ∈ lw_tbl := mem_idx [812, 813, 814, 815, 816, 817, 216, 218, 219, 818, 1311, 1312, 1313, 1314, 1315, 1316, 1317, 819, 820, 821, 822, 823, 824, 825] (by decide +kernel)
set_option maxRecDepth 20000 in
theorem in_wsL_law_r44 : ∀ w ∈ wsL_law_r44, w ∈ lw_tbl := mem_idx [826, 827, 828, 829, 830, 1318, 1319, 1320, 1321, 831, 832, 833, 834, 222, 293, 835, 836, 837, 838, 1322, 1323, 1324, 1325, 1326] (by decide +kernel)
set_option maxRecDepth 20000 in
theorem in_wsL_law_r45 : ∀ w ∈ wsL_law_r45, w ∈ lw_tbl := mem_idx [897, 1327, 839, 840, 841, 842, 1328, 1329, 1330, 1331, 843, 844, 845, 846, 217, 220, 847, 849, 24, 850, 851, 852, 853, 854] (by decide +kernel)
set_option maxRecDepth 20000 in
theorem in_wsL_law_r46 : ∀ w ∈ wsL_law_r46, w ∈ lw_tbl := mem_idx [1332, 1333, 1334, 1335] (by decide +kernel)
set_option maxRecDepth 20000 in
theorem in_wsX70 : ∀ w ∈ wsX70, w ∈ lw_tbl := mem_idx [294, 296, 298, 300, 302, 304, 306, 308, 310, 312, 314] (by decide +kernel)
set_option maxRecDepth 20000 in
theorem in_wsX80 : ∀ w ∈ wsX80, w ∈ lw_tbl := mem_idx [899, 901, 903, 905, 907, 909, 911, 913, 915, 917, 919, 921, 923, 925, 927, 929, 931, 933, 935, 937, 939, 941, 943, 945, 947, 949, 951, 953, 955, 957] (by decide +kernel)
set_option maxRecDepth 20000 in
theorem in_wsX10 : ∀ w ∈ wsX10, w ∈ lw_tbl := mem_idx [122, 124, 126, 128, 130, 132, 134] (by decide +kernel)
set_option maxRecDepth 20000 in
theorem in_wsX20 : ∀ w ∈ wsX20, w ∈ lw_tbl := mem_idx [148] (by decide +kernel)
set_option maxRecDepth 20000 in
theorem in_wsX40 : ∀ w ∈ wsX40, w ∈ lw_tbl := mem_idx [161, 163] (by decide +kernel)
set_option maxRecDepth 20000 in
theorem in_wsX50 : ∀ w ∈ wsX50, w ∈ lw_tbl := mem_idx [177, 179, 181, 183] (by decide +kernel)
set_option maxRecDepth 20000 in
theorem in_wsX00 : ∀ w ∈ wsX00, w ∈ lw_tbl := mem_idx [202, 204, 206] (by decide +kernel)
set_option maxRecDepth 20000 in
theorem in_wsX60 : ∀ w ∈ wsX60, w ∈ lw_tbl := mem_idx [223, 225, 227, 229] (by decide +kernel)
set_option maxRecDepth 20000 in
theorem in_wsX30 : ∀ w ∈ wsX30, w ∈ lw_tbl := mem_idx [258, 260, 262, 264, 266, 268, 270, 272, 274, 276, 278, 280] (by decide +kernel)
theorem wsL_law_in : ∀ w ∈ wsL_law, w ∈ lw_tbl := in_app (in_app (in_app (in_app (in_app (in_app (in_app (in_app (in_app (in_app ((in_app in_wsL_law_r1 (in_app in_wsL_law_r2 (in_app in_wsL_law_r3 (in_app in_wsL_law_r4 (in_app in_wsL_law_r5 (in_app in_wsL_law_r6 (in_app in_wsL_law_r7 (in_app in_wsL_law_r8 (in_app in_wsL_law_r9 (in_app in_wsL_law_r10 (in_app in_wsL_law_r11 (in_app in_wsL_law_r12 (in_app in_wsL_law_r13 (in_app in_wsL_law_r14 (in_app in_wsL_law_r15 (in_app in_wsL_law_r16 (in_app in_wsL_law_r17 (in_app in_wsL_law_r18 (in_app in_wsL_law_r19 (in_app in_wsL_law_r20 (in_app in_wsL_law_r21 (in_app in_wsL_law_r22 (in_app in_wsL_law_r23 (in_app in_wsL_law_r24 (in_app in_wsL_law_r25 (in_app in_wsL_law_r26 (in_app in_wsL_law_r27 (in_app in_wsL_law_r28 (in_app in_wsL_law_r29 (in_app in_wsL_law_r30 (in_app in_wsL_law_r31 (in_app in_wsL_law_r32 (in_app in_wsL_law_r33 (in_app in_wsL_law_r34 (in_app in_wsL_law_r35 (in_app in_wsL_law_r36 (in_app in_wsL_law_r37 (in_app in_wsL_law_r38 (in_app in_wsL_law_r39 (in_app in_wsL_law_r40 (in_app in_wsL_law_r41 (in_app in_wsL_law_r42 (in_app in_wsL_law_r43 (in_app in_wsL_law_r44 (in_app in_wsL_law_r45 (in_wsL_law_r46))))))))))))))))))))))))))))))))))))))))))))))) in_wsX70) in_wsX80) in_wsX10) in_wsX20) in_wsX40) in_wsX50) in_wsX00) in_wsX60) in_wsX30) (fun _ h => absurd h List.not_mem_nil)
theorem inlX0 : ∀ w ∈ wsX00, w ∈ wsL_law := fun _ h => List.mem_append_left _ (List.mem_append_left _ (List.mem_append_left _ (List.mem_append_right _ h)))
theorem inlX1 : ∀ w ∈ wsX10, w ∈ wsL_law := fun _ h => List.mem_append_left _ (List.mem_append_left _ (List.mem_append_left _ (List.mem_append_left _ (List.mem_append_left _ (List.mem_append_left _ (List.mem_append_left _ (List.mem_append_right _ h)))))))
theorem inlX2 : ∀ w ∈ wsX20, w ∈ wsL_law := fun _ h => List.mem_append_left _ (List.mem_append_left _ (List.mem_append_left _ (List.mem_append_left _ (List.mem_append_left _ (List.mem_append_left _ (List.mem_append_right _ h))))))
theorem inlX3 : ∀ w ∈ wsX30, w ∈ wsL_law := fun _ h => List.mem_append_left _ (List.mem_append_right _ h)
theorem inlX4 : ∀ w ∈ wsX40, w ∈ wsL_law := fun _ h => List.mem_append_left _ (List.mem_append_left _ (List.mem_append_left _ (List.mem_append_left _ (List.mem_append_left _ (List.mem_append_right _ h)))))
theorem inlX5 : ∀ w ∈ wsX50, w ∈ wsL_law := fun _ h => List.mem_append_left _ (List.mem_append_left _ (List.mem_append_left _ (List.mem_append_left _ (List.mem_append_right _ h))))
theorem inlX6 : ∀ w ∈ wsX60, w ∈ wsL_law := fun _ h => List.mem_append_left _ (List.mem_append_left _ (List.mem_append_right _ h))
theorem inlX7 : ∀ w ∈ wsX70, w ∈ wsL_law := fun _ h => List.mem_append_left _ (List.mem_append_left _ (List.mem_append_left _ (List.mem_append_left _ (List.mem_append_left _ (List.mem_append_left _ (List.mem_append_left _ (List.mem_append_left _ (List.mem_append_left _ (List.mem_append_right _ h)))))))))
theorem inlX8 : ∀ w ∈ wsX80, w ∈ wsL_law := fun _ h => List.mem_append_left _ (List.mem_append_left _ (List.mem_append_left _ (List.mem_append_left _ (List.mem_append_left _ (List.mem_append_left _ (List.mem_append_left _ (List.mem_append_left _ (List.mem_append_right _ h))))))))
