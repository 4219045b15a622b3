set_option maxRecDepth 20000 in
theorem in_wsL_law_r24 : ∀ w ∈ wsL_law_r24, w ∈ lw_tbl := mem_idx [1123, 1125, 52, 1126, 1127, 1129, 53, 1130, 1131, 1132, 1133, 1134, 1136, 54, 1137, 558, 559, 560, 561, 562, 563, 564, 565, 566] (by decide +kernel)
set_option maxRecDepth 20000 in
theorem in_wsL_law_r25 : ∀ w ∈ wsL_law_r25, w ∈ lw_tbl := mem_idx [568, 12, 569, 570, 571, 572, 573, 1138, 1139, 1140, 1141, 1142, 1144, 55, 1145, 574, 575, 576, 577, 578, 579, 580, 581, 582] (by decide +kernel)
set_option maxRecDepth 20000 in
theorem in_wsL_law_r26 : ∀ w ∈ wsL_law_r26, w ∈ lw_tbl := mem_idx [583, 584, 585, 586, 588, 13, 589, 591, 592, 593, 590, 1146, 1147, 1148, 1149, 1150, 885, 1151, 1153, 56, 1154, 1155, 1157, 57] (by decide +kernel)
set_option maxRecDepth 20000 in
theorem in_wsL_law_r27 : ∀ w ∈ wsL_law_r27, w ∈ lw_tbl := mem_idx [1158, 594, 595, 596, 597, 598, 599, 600, 601, 602, 1159, 1160, 1161, 1162, 1163, 1164, 1165, 1166, 603, 604, 605, 606, 1167, 1168] (by decide +kernel)
set_option maxRecDepth 20000 in
theorem in_wsL_law_r28 : ∀ w ∈ wsL_law_r28, w ∈ lw_tbl := mem_idx [1169, 1170, 1171, 607, 608, 609, 610, 611, 612, 613, 614, 1172, 1173, 1174, 1175, 1176, 1178, 58, 1179, 615, 616, 617, 618, 619] (by decide +kernel)
set_option maxRecDepth 20000 in
theorem in_wsL_law_r29 : ∀ w ∈ wsL_law_r29, w ∈ lw_tbl := mem_idx [620, 621, 622, 1180, 1181, 1182, 1183, 1184, 1186, 59, 1187, 623, 624, 625, 626, 627, 1188, 1189, 1190, 1191, 628, 629, 630, 631] (by decide +kernel)
set_option maxRecDepth 20000 in
theorem in_wsL_law_r30 : ∀ w ∈ wsL_law_r30, w ∈ lw_tbl := mem_idx [160, 158, 632, 633, 634, 635, 102, 159, 636, 638, 14, 639, 640, 641, 643, 15, 644, 645, 646, 647, 648, 653, 649, 651] (by decide +kernel)
set_option maxRecDepth 20000 in
theorem in_wsL_law_r31 : ∀ w ∈ wsL_law_r31, w ∈ lw_tbl := mem_idx [16, 652, 1192, 1193, 1194, 1195, 1199, 1200, 887, 1196, 1197, 1198, 1201, 1203, 60, 1204, 1205, 1207, 61, 1208, 654, 655, 656, 657] (by decide +kernel)
set_option maxRecDepth 20000 in
theorem in_wsL_law_r32 : ∀ w ∈ wsL_law_r32, w ∈ lw_tbl := mem_idx [658, 659, 660, 661, 662, 1209, 1210, 1211, 1212, 663, 664, 665, 666, 667, 668, 669, 670, 671, 672, 673, 86, 674, 675, 676] (by decide +kernel)
set_option maxRecDepth 20000 in
theorem in_wsL_law_r33 : ∀ w ∈ wsL_law_r33, w ∈ lw_tbl := mem_idx [677, 678, 1213, 1214, 1215, 1216, 1217, 1219, 62, 1220, 1221, 1223, 63, 1224, 679, 680, 681, 682, 683, 685, 17, 686, 1225, 1226] (by decide +kernel)
set_option maxRecDepth 20000 in
theorem in_wsL_law_r34 : ∀ w ∈ wsL_law_r34, w ∈ lw_tbl := mem_idx [1227, 1228, 687, 688, 689, 690, 1229, 1230, 1231, 1232, 691, 692, 693, 694, 695, 697, 18, 698, 1233, 1234, 1235, 1236, 1237, 1239] (by decide +kernel)
set_option maxRecDepth 20000 in
theorem in_wsL_law_r35 : ∀ w ∈ wsL_law_r35, w ∈ lw_tbl := mem_idx [64, 1240, 699, 700, 701, 702, 1241, 1242, 1243, 1244, 703, 704, 705, 706, 710, 707, 708, 709, 711, 712, 713, 714, 726, 730] (by decide +kernel)
set_option maxRecDepth 20000 in
theorem in_wsL_law_r36 : ∀ w ∈ wsL_law_r36, w ∈ lw_tbl := mem_idx [731, 732, 715, 716, 718, 19, 719, 108, 720, 721, 722, 723, 724, 725, 727, 728, 729, 1245, 1246, 1247, 1248, 1249, 1250, 888] (by decide +kernel)
set_option maxRecDepth 20000 in
theorem in_wsL_law_r37 : ∀ w ∈ wsL_law_r37, w ∈ lw_tbl := mem_idx [890, 1251, 1253, 65, 1254, 889, 1255, 1256, 1257, 1258, 1259, 1260, 733, 734, 735, 736, 1261, 1262, 1263, 1264, 737, 738, 739, 740] (by decide +kernel)
set_option maxRecDepth 20000 in
theorem in_wsL_law_r38 : ∀ w ∈ wsL_law_r38, w ∈ lw_tbl := mem_idx [741, 742, 743, 744, 175, 1265, 1266, 1267, 1268, 745, 746, 747, 748, 1269, 1270, 1271, 1272, 749, 750, 751, 752, 753, 754, 755] (by decide +kernel)
set_option maxRecDepth 20000 in
theorem in_wsL_law_r39 : ∀ w ∈ wsL_law_r39, w ∈ lw_tbl := mem_idx [756, 109, 757, 759, 20, 760, 761, 762, 764, 21, 765, 766, 767, 1273, 1274, 1275, 1276, 1277, 1279, 66, 1280, 1281, 1283, 67] (by decide +kernel)
set_option maxRecDepth 20000 in
theorem in_wsL_law_r40 : ∀ w ∈ wsL_law_r40, w ∈ lw_tbl := mem_idx [1284, 768, 769, 770, 771, 772, 774, 22, 775, 1285, 1286, 1287, 1288, 776, 777, 778, 779, 780, 782, 23, 783, 784, 785, 786] (by decide +kernel)
set_option maxRecDepth 20000 in
theorem in_wsL_law_r41 : ∀ w ∈ wsL_law_r41, w ∈ lw_tbl := mem_idx [787, 1289, 1290, 1291, 1292, 788, 789, 790, 791, 792, 1293, 1294, 1295, 1296, 1297, 793, 794, 795, 796, 199, 201, 797, 798, 799] (by decide +kernel)
set_option maxRecDepth 20000 in
theorem in_wsL_law_r42 : ∀ w ∈ wsL_law_r42, w ∈ lw_tbl := mem_idx [800, 801, 1298, 1299, 1300, 1301, 1302, 1304, 68, 1305, 802, 803, 804, 805, 1306, 1307, 1308, 1309, 806, 807, 808, 809, 810, 811] (by decide +kernel)
set_option maxRecDepth 20000 in
theorem in_wsL_law_r43 : ∀ w ∈ wsL_law_r43, w ∈ lw_tbl := mem_idx [812, 813, 814, 815, 816, 216, 218, 219, 817, 1310, 1311, 1312, 1313, 1314, 1315, 1316, 818, 819, 820, 821, 822, 823, 824, 825] (by decide +kernel)
set_option maxRecDepth 20000 in
theorem in_wsL_law_r44 : ∀ w ∈ wsL_law_r44, w ∈ lw_tbl := mem_idx [826, 827, 828, 829, 1317, 1318, 1319, 1320, 830, 831, 832, 833, 222, 293, 834, 835, 836, 837, 1321, 1322, 1323, 1324, 1325, 896] (by decide +kernel)
set_option maxRecDepth 20000 in
theorem in_wsL_law_r45 : ∀ w ∈ wsL_law_r45, w ∈ lw_tbl := mem_idx [1326, 838, 839, 840, 841, 1327, 1328, 1329, 1330, 842, 843, 844, 845, 217, 220, 846, 848, 24, 849, 850, 851, 852, 853, 1331] (by decide +kernel)
set_option maxRecDepth 20000 in
theorem in_wsL_law_r46 : ∀ w ∈ wsL_law_r46, w ∈ lw_tbl := mem_idx [1332, 1333, 1334] (by decide +kernel)
set_option maxRecDepth 20000 in
theorem in_wsX70 : ∀ w ∈ wsX70, w ∈ lw_tbl := mem_idx [294, 296, 298, 300, 302, 304, 306, 308, 310, 312, 314] (by decide +kernel)
set_option maxRecDepth 20000 in
theorem in_wsX80 : ∀ w ∈ wsX80, w ∈ lw_tbl := mem_idx [898, 900, 902, 904, 906, 908, 910, 912, 914, 916, 918, 920, 922, 924, 926, 928, 930, 932, 934, 936, 938, 940, 942, 944, 946, 948, 950, 952, 954, 956] (by decide +kernel)
set_option maxRecDepth 20000 in
theorem in_wsX10 : ∀ w ∈ wsX10, w ∈ lw_tbl := mem_idx [122, 124, 126, 128, 130, 132, 134] (by decide +kernel)
set_option maxRecDepth 20000 in
theorem in_wsX20 : ∀ w ∈ wsX20, w ∈ lw_tbl := mem_idx [148] (by decide +kernel)
set_option maxRecDepth 20000 in
theorem in_wsX40 : ∀ w ∈ wsX40, w ∈ lw_tbl := mem_idx [161, 163] (by decide +kernel)
set_option maxRecDepth 20000 in
theorem in_wsX50 : ∀ w ∈ wsX50, w ∈ lw_tbl := mem_idx [177, 179, 181, 183] (by decide +kernel)
set_option maxRecDepth 20000 in
theorem in_wsX00 : ∀ w ∈ wsX00, w ∈ lw_tbl := mem_idx [202, 204, 206] (by decide +kernel)
set_option maxRecDepth 20000 in
theorem in_wsX60 : ∀ w ∈ wsX60, w ∈ lw_tbl := mem_idx [223, 225, 227, 229] (by decide +kernel)
set_option maxRecDepth 20000 in
theorem in_wsX30 : ∀ w ∈ wsX30, w ∈ lw_tbl := mem_idx [258, 260, 262, 264, 266, 268, 270, 272, 274, 276, 278, 280] (by decide +kernel)
theorem wsL_law_in : ∀ w ∈ wsL_law, w ∈ lw_tbl := in_app (in_app (in_app (in_app (in_app (in_app (in_app (in_app (in_app (in_app ((in_app in_wsL_law_r1 (in_app in_wsL_law_r2 (in_app in_wsL_law_r3 (in_app in_wsL_law_r4 (in_app in_wsL_law_r5 (in_app in_wsL_law_r6 (in_app in_wsL_law_r7 (in_app in_wsL_law_r8 (in_app in_wsL_law_r9 (in_app in_wsL_law_r10 (in_app in_wsL_law_r11 (in_app in_wsL_law_r12 (in_app in_wsL_law_r13 (in_app in_wsL_law_r14 (in_app in_wsL_law_r15 (in_app in_wsL_law_r16 (in_app in_wsL_law_r17 (in_app in_wsL_law_r18 (in_app in_wsL_law_r19 (in_app in_wsL_law_r20 (in_app in_wsL_law_r21 (in_app in_wsL_law_r22 (in_app in_wsL_law_r23 (in_app in_wsL_law_r24 (in_app in_wsL_law_r25 (in_app in_wsL_law_r26 (in_app in_wsL_law_r27 (in_app in_wsL_law_r28 (in_app in_wsL_law_r29 (in_app in_wsL_law_r30 (in_app in_wsL_law_r31 (in_app in_wsL_law_r32 (in_app in_wsL_law_r33 (in_app in_wsL_law_r34 (in_app in_wsL_law_r35 (in_app in_wsL_law_r36 (in_app in_wsL_law_r37 (in_app in_wsL_law_r38 (in_app in_wsL_law_r39 (in_app in_wsL_law_r40 (in_app in_wsL_law_r41 (in_app in_wsL_law_r42 (in_app in_wsL_law_r43 (in_app in_wsL_law_r44 (in_app in_wsL_law_r45 (in_wsL_law_r46))))))))))))))))))))))))))))))))))))))))))))))) in_wsX70) in_wsX80) in_wsX10) in_wsX20) in_wsX40) in_wsX50) in_wsX00) in_wsX60) in_wsX30) (fun _ h => absurd h List.not_mem_nil)
theorem inlX0 : ∀ w ∈ wsX00, w ∈ wsL_law := fun _ h => List.mem_append_left _ (List.mem_append_left _ (List.mem_append_left _ (List.mem_append_right _ h)))
theorem inlX1 : ∀ w ∈ wsX10, w ∈ wsL_law := fun _ h => List.mem_append_left _ (List.mem_append_left _ (List.mem_append_left _ (List.mem_append_left _ (List.mem_append_left _ (List.mem_append_left _ (List.mem_append_left _ (List.mem_append_right _ h)))))))
theorem inlX2 : ∀ w ∈ wsX20, w ∈ wsL_law := fun _ h => List.mem_append_left _ (List.mem_append_left _ (List.mem_append_left _ (List.mem_append_left _ (List.mem_append_left _ (List.mem_append_left _ (List.mem_append_right _ h))))))
theorem inlX3 : ∀ w ∈ wsX30, w ∈ wsL_law := fun _ h => List.mem_append_left _ (List.mem_append_right _ h)
theorem inlX4 : ∀ w ∈ wsX40, w ∈ wsL_law := fun _ h => List.mem_append_left _ (List.mem_append_left _ (List.mem_append_left _ (List.mem_append_left _ (List.mem_append_left _ (List.mem_append_right _ h)))))
theorem inlX5 : ∀ w ∈ wsX50, w ∈ wsL_law := fun _ h => List.mem_append_left _ (List.mem_append_left _ (List.mem_append_left _ (List.mem_append_left _ (List.mem_append_right _ h))))
theorem inlX6 : ∀ w ∈ wsX60, w ∈ wsL_law := fun _ h => List.mem_append_left _ (List.mem_append_left _ (List.mem_append_right _ h))
theorem inlX7 : ∀ w ∈ wsX70, w ∈ wsL_law := fun _ h => List.mem_append_left _ (List.mem_append_left _ (List.mem_append_left _ (List.mem_append_left _ (List.mem_append_left _ (List.mem_append_left _ (List.mem_append_left _ (List.mem_append_left _ (List.mem_append_left _ (List.mem_append_right _ h)))))))))
theorem inlX8 : ∀ w ∈ wsX80, w ∈ wsL_law := fun _ h => List.mem_append_left _ (List.mem_append_left _ (List.mem_append_left _ (List.mem_append_left _ (List.mem_append_left _ (List.mem_append_left _ (List.mem_append_left _ (List.mem_append_left _ (List.mem_append_right _ h))))))))
