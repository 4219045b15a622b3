set_option maxRecDepth 20000 in
theorem ggL_law_X8_kinds : GoodIn wsL_law wsX8_kinds := goodIn_r _ [928, 455, 456, 457, 5, 458, 112, 128, 129, 130, 929, 930, 931, 932, 933, 934, 935, 936, 94, 87, 394, 395, 396, 397, 88, 552, 553, 554, 555, 398, 399, 400, 401, 402, 403, 404, 405, 406, 407, 408, 409, 410, 411, 412, 621, 622, 623, 624, 616, 421, 422, 423, 424, 556, 557, 558, 559, 560, 561, 562, 467, 468, 469, 470, 587, 588, 589, 590, 1094, 1095, 1096, 1097, 1098, 1099, 1100, 1101, 1102, 1103, 1104, 1105, 1106, 1107, 1108, 1109, 1110, 1111, 1112, 1113, 1114, 1115, 1116, 1117, 1118, 1119, 1120, 1121, 1122, 1123] (by decide +kernel) (by decide +kernel)
set_option maxRecDepth 20000 in
theorem gL_law_X8_kinds : GoodIn wsL_law (wsV RL 143 RX8 yX8_kinds wsX8_kinds) := goodIn_app (goodIn_of _ (by decide +kernel)) ggL_law_X8_kinds
set_option maxRecDepth 20000 in
theorem ggL_law_X7_earns : GoodIn wsL_law wsX7_earns := goodIn_r _ [940, 15, 432, 433, 434, 14, 435, 166, 941, 942, 943, 2, 944, 16, 431, 28, 289, 290, 291, 292, 167, 168, 46, 293, 294, 295, 296, 47, 48, 49, 909, 910, 911, 27, 912, 913, 914, 915, 916, 917, 892, 63, 918, 269, 270, 271, 919, 920, 921, 922, 64, 65, 923, 375, 376, 377, 378, 379, 380, 381, 924, 600, 601, 602, 445, 579, 580, 581, 582, 603, 604, 605, 606, 607, 608, 609, 610, 448, 449, 450, 542, 273, 274, 275, 575, 576, 577, 578, 543, 277, 278, 279, 1083, 1084, 1085, 1086, 1087, 1088, 1089, 1090, 1091, 1092, 1093, 1124, 1125, 1126, 1127, 1128, 1129, 1130, 1134, 1135, 1136, 1137] (by decide +kernel) (by decide +kernel)
set_option maxRecDepth 20000 in
theorem gL_law_X7_earns : GoodIn wsL_law (wsV RL 144 RX7 yX7_earns wsX7_earns) := goodIn_app (goodIn_of _ (by decide +kernel)) ggL_law_X7_earns
set_option maxRecDepth 20000 in
theorem ggL_law_X8_earns : GoodIn wsL_law wsX8_earns := goodIn_r _ [948, 455, 456, 457, 5, 458, 112, 128, 129, 130, 929, 930, 931, 932, 933, 934, 935, 936, 94, 87, 394, 395, 396, 397, 88, 552, 553, 554, 555, 398, 399, 400, 401, 402, 403, 404, 405, 406, 407, 408, 409, 410, 411, 412, 621, 622, 623, 624, 616, 421, 422, 423, 424, 556, 557, 558, 559, 560, 561, 562, 467, 468, 469, 470, 587, 588, 589, 590, 1094, 1095, 1096, 1097, 1098, 1099, 1100, 1101, 1102, 1103, 1104, 1105, 1106, 1107, 1108, 1109, 1110, 1111, 1112, 1113, 1114, 1115, 1116, 1117, 1118, 1119, 1120, 1121, 1122, 1123] (by decide +kernel) (by decide +kernel)
set_option maxRecDepth 20000 in
theorem gL_law_X8_earns : GoodIn wsL_law (wsV RL 147 RX8 yX8_earns wsX8_earns) := goodIn_app (goodIn_of _ (by decide +kernel)) ggL_law_X8_earns
set_option maxRecDepth 20000 in
theorem ggL_law_X7_ask : GoodIn wsL_law wsX7_ask := goodIn_r _ [952, 15, 42, 687, 269, 270, 271, 432, 433, 434, 14, 435, 166, 119, 120, 2, 121, 941, 942, 943, 944, 16, 431, 28, 289, 290, 291, 292, 167, 168, 46, 293, 294, 295, 296, 47, 48, 49, 909, 910, 911, 27, 912, 913, 914, 915, 916, 917, 892, 63, 918, 919, 920, 921, 922, 64, 65, 923, 375, 376, 377, 378, 379, 380, 381, 924, 600, 601, 602, 445, 579, 580, 581, 582, 603, 604, 605, 606, 607, 608, 609, 610, 448, 449, 450, 542, 273, 274, 275, 575, 576, 577, 578, 543, 277, 278, 279, 953, 954, 955, 956, 369, 957, 170, 171, 172, 958, 959, 960, 763, 764, 765, 766, 767, 768, 1083, 1084, 1085, 1086, 1087, 1088, 1089, 1090, 1091, 1092, 1093, 1124, 1125, 1126, 1127, 1128, 1129, 1130, 1134, 1135, 1136, 1137] (by decide +kernel) (by decide +kernel)
set_option maxRecDepth 20000 in
theorem gL_law_X7_ask : GoodIn wsL_law (wsV RL 148 RX7 yX7_ask wsX7_ask) := goodIn_app (goodIn_of _ (by decide +kernel)) ggL_law_X7_ask
set_option maxRecDepth 20000 in
theorem ggL_law_X8_ask : GoodIn wsL_law wsX8_ask := goodIn_r _ [964, 95, 94, 455, 456, 457, 5, 458, 112, 128, 129, 130, 729, 730, 731, 933, 934, 935, 936, 87, 394, 395, 396, 397, 88, 552, 553, 554, 555, 398, 399, 400, 401, 402, 403, 404, 405, 406, 407, 408, 409, 410, 411, 412, 621, 622, 623, 624, 616, 421, 422, 423, 424, 556, 557, 558, 559, 560, 561, 562, 467, 468, 469, 470, 587, 588, 589, 590, 1094, 1095, 1096, 1097, 1098, 1099, 1100, 1101, 1102, 1103, 1104, 1105, 1106, 1107, 1108, 1109, 1110, 1111, 1112, 1113, 1114, 1115, 1116, 1117, 1118, 1119, 1120, 1121, 1122, 1123] (by decide +kernel) (by decide +kernel)
set_option maxRecDepth 20000 in
theorem gL_law_X8_ask : GoodIn wsL_law (wsV RL 151 RX8 yX8_ask wsX8_ask) := goodIn_app (goodIn_of _ (by decide +kernel)) ggL_law_X8_ask
set_option maxRecDepth 20000 in
theorem ggL_law_X7_drift : GoodIn wsL_law wsX7_drift := goodIn_r _ [968, 15, 367, 16, 969, 369, 119, 120, 2, 121, 289, 290, 291, 14, 292, 166, 167, 168, 46, 293, 294, 295, 296, 47, 48, 49, 537, 538, 539, 540, 541, 476, 477, 478, 479, 433, 434, 435, 542, 273, 274, 275, 543, 277, 278, 279, 959, 600, 601, 602, 445, 269, 270, 271, 579, 580, 581, 582, 603, 604, 605, 606, 607, 608, 609, 610, 448, 449, 450, 378, 379, 380, 381, 575, 576, 577, 578, 382, 383, 384, 385, 370, 371, 372, 373, 374, 375, 376, 377, 1083, 1084, 1085, 1086, 1087, 1088, 1089, 1090, 1091, 1092, 1093, 1124, 1125, 1126, 1127, 1128, 1129, 1130] (by decide +kernel) (by decide +kernel)
set_option maxRecDepth 20000 in
theorem gL_law_X7_drift : GoodIn wsL_law (wsV RL 152 RX7 yX7_drift wsX7_drift) := goodIn_app (goodIn_of _ (by decide +kernel)) ggL_law_X7_drift
set_option maxRecDepth 20000 in
theorem ggL_law_X8_drift : GoodIn wsL_law wsX8_drift := goodIn_r _ [973, 641, 112, 974, 128, 129, 5, 130, 729, 730, 731, 394, 395, 396, 397, 88, 87, 548, 549, 550, 551, 421, 422, 423, 424, 406, 407, 408, 409, 552, 553, 554, 555, 556, 557, 558, 559, 560, 561, 562, 621, 622, 623, 624, 616, 467, 468, 469, 470, 402, 403, 404, 405, 587, 588, 589, 590, 413, 414, 415, 416, 398, 399, 400, 401, 410, 411, 412, 1094, 1095, 1096, 1097, 1098, 1099, 1100, 1101, 1102, 1103, 1104, 1105, 1106, 1107, 1108, 1109, 1110, 1111, 1112, 1113, 1114, 1115, 1116, 1117, 1118, 1119, 1120, 1121, 1122, 1123] (by decide +kernel) (by decide +kernel)
set_option maxRecDepth 20000 in
theorem gL_law_X8_drift : GoodIn wsL_law (wsV RL 155 RX8 yX8_drift wsX8_drift) := goodIn_app (goodIn_of _ (by decide +kernel)) ggL_law_X8_drift
set_option maxRecDepth 20000 in
theorem ggL_law_X7_keep : GoodIn wsL_law wsX7_keep := goodIn_r _ [978, 30, 148, 979, 15, 980, 28, 119, 120, 2, 121, 289, 290, 291, 14, 292, 166, 167, 168, 46, 293, 294, 295, 296, 47, 48, 49, 981, 982, 983, 27, 984, 892, 63, 985, 64, 65, 1083, 1084, 1085, 1086, 1087, 1088, 1089, 1090, 1091, 1092, 1093, 1138, 1139, 1140, 1124, 1125, 1126, 1127, 1128, 1129, 1130, 1134, 1135, 1136, 1137] (by decide +kernel) (by decide +kernel)
set_option maxRecDepth 20000 in
theorem gL_law_X7_keep : GoodIn wsL_law (wsV RL 156 RX7 yX7_keep wsX7_keep) := goodIn_app (goodIn_of _ (by decide +kernel)) ggL_law_X7_keep
set_option maxRecDepth 20000 in
theorem ggL_law_X8_keep : GoodIn wsL_law wsX8_keep := goodIn_r _ [989, 90, 128, 129, 5, 130, 410, 411, 412, 990, 991, 992, 993, 87, 1094, 1095, 1096, 1097, 1098, 1099, 1100, 1101, 1102, 1103, 1104, 1105, 1106, 1107, 1108, 1109, 1110, 1111, 1112, 1113, 1114, 1115, 1116, 1117, 1118, 1119, 1120, 1121, 1122, 1123] (by decide +kernel) (by decide +kernel)
set_option maxRecDepth 20000 in
theorem gL_law_X8_keep : GoodIn wsL_law (wsV RL 159 RX8 yX8_keep wsX8_keep) := goodIn_app (goodIn_of _ (by decide +kernel)) ggL_law_X8_keep
set_option maxRecDepth 20000 in
theorem ggL_law_X7_back : GoodIn wsL_law wsX7_back := goodIn_r _ [997, 30, 148, 15, 979, 28, 980, 368, 119, 120, 2, 121, 289, 290, 291, 14, 292, 166, 167, 168, 46, 293, 294, 295, 296, 47, 48, 49, 981, 982, 983, 27, 984, 892, 63, 985, 64, 65, 1083, 1084, 1085, 1086, 1087, 1088, 1089, 1090, 1091, 1092, 1093, 1138, 1139, 1140, 1124, 1125, 1126, 1127, 1128, 1129, 1130, 1134, 1135, 1136, 1137] (by decide +kernel) (by decide +kernel)
set_option maxRecDepth 20000 in
theorem gL_law_X7_back : GoodIn wsL_law (wsV RL 160 RX7 yX7_back wsX7_back) := goodIn_app (goodIn_of _ (by decide +kernel)) ggL_law_X7_back
set_option maxRecDepth 20000 in
theorem ggL_law_X8_back : GoodIn wsL_law wsX8_back := goodIn_r _ [1001, 90, 87, 128, 129, 5, 130, 990, 991, 992, 993, 1094, 1095, 1096, 1097, 1098, 1099, 1100, 1101, 1102, 1103, 1104, 1105, 1106, 1107, 1108, 1109, 1110, 1111, 1112, 1113, 1114, 1115, 1116, 1117, 1118, 1119, 1120, 1121, 1122, 1123] (by decide +kernel) (by decide +kernel)
set_option maxRecDepth 20000 in
theorem gL_law_X8_back : GoodIn wsL_law (wsV RL 163 RX8 yX8_back wsX8_back) := goodIn_app (goodIn_of _ (by decide +kernel)) ggL_law_X8_back
set_option maxRecDepth 20000 in
theorem ggL_law_X7_sheet : GoodIn wsL_law wsX7_sheet := goodIn_r _ [1005, 34, 1006, 1007, 2, 1008, 119, 120, 121, 1009, 1010, 1011, 36, 1012, 1013, 1014, 1015, 76, 1016, 170, 171, 172, 1083, 1084, 1085, 1086, 1087, 1088, 1089, 1090, 1091, 1092, 1093, 1141, 1142, 1143, 1144] (by decide +kernel) (by decide +kernel)
set_option maxRecDepth 20000 in
theorem gL_law_X7_sheet : GoodIn wsL_law (wsV RL 164 RX7 yX7_sheet wsX7_sheet) := goodIn_app (goodIn_of _ (by decide +kernel)) ggL_law_X7_sheet
set_option maxRecDepth 20000 in
theorem ggL_law_X8_sheet : GoodIn wsL_law wsX8_sheet := goodIn_r _ [1020, 96, 97, 98, 1021, 1022, 5, 1023, 508, 650, 128, 129, 130, 1094, 1095, 1096, 1097, 1098, 1099, 1100, 1101, 1102, 1103, 1104, 1105, 1106, 1107, 1108, 1109, 1110, 1111, 1112, 1113, 1114, 1115, 1116, 1117, 1118, 1119, 1120, 1121, 1122, 1123] (by decide +kernel) (by decide +kernel)
set_option maxRecDepth 20000 in
theorem gL_law_X8_sheet : GoodIn wsL_law (wsV RL 167 RX8 yX8_sheet wsX8_sheet) := goodIn_app (goodIn_of _ (by decide +kernel)) ggL_law_X8_sheet
set_option maxRecDepth 20000 in
theorem ggL_law_X7_lay : GoodIn wsL_law wsX7_lay := goodIn_r _ [1027, 34, 1006, 1007, 2, 1008, 119, 120, 121, 1028, 1029, 1030, 36, 1031, 1013, 1015, 1032, 1033, 1034, 1035, 1014, 76, 1083, 1084, 1085, 1086, 1087, 1088, 1089, 1090, 1091, 1092, 1093, 1141, 1142, 1143, 1144] (by decide +kernel) (by decide +kernel)
set_option maxRecDepth 20000 in
theorem gL_law_X7_lay : GoodIn wsL_law (wsV RL 168 RX7 yX7_lay wsX7_lay) := goodIn_app (goodIn_of _ (by decide +kernel)) ggL_law_X7_lay
set_option maxRecDepth 20000 in
theorem ggL_law_X8_lay : GoodIn wsL_law wsX8_lay := goodIn_r _ [1039, 96, 97, 98, 1021, 1022, 5, 1023, 508, 650, 128, 129, 130, 1094, 1095, 1096, 1097, 1098, 1099, 1100, 1101, 1102, 1103, 1104, 1105, 1106, 1107, 1108, 1109, 1110, 1111, 1112, 1113, 1114, 1115, 1116, 1117, 1118, 1119, 1120, 1121, 1122, 1123] (by decide +kernel) (by decide +kernel)
set_option maxRecDepth 20000 in
theorem gL_law_X8_lay : GoodIn wsL_law (wsV RL 171 RX8 yX8_lay wsX8_lay) := goodIn_app (goodIn_of _ (by decide +kernel)) ggL_law_X8_lay
set_option maxRecDepth 20000 in
theorem ggL_law_X7_read : GoodIn wsL_law wsX7_read := goodIn_r _ [1043, 34, 16, 15, 1044, 1045, 1006, 1007, 2, 1008, 119, 120, 121, 289, 290, 291, 14, 292, 166, 167, 168, 46, 293, 294, 295, 296, 47, 48, 49, 1046, 1047, 1048, 36, 1049, 1013, 1014, 1015, 571, 572, 573, 574, 541, 476, 477, 478, 479, 433, 434, 435, 542, 273, 274, 275, 575, 576, 577, 578, 543, 277, 278, 279, 579, 580, 581, 582, 1083, 1084, 1085, 1086, 1087, 1088, 1089, 1090, 1091, 1092, 1093, 1141, 1142, 1143, 1144, 1124, 1125, 1126, 1127, 1128, 1129, 1130] (by decide +kernel) (by decide +kernel)
set_option maxRecDepth 20000 in
theorem gL_law_X7_read : GoodIn wsL_law (wsV RL 172 RX7 yX7_read wsX7_read) := goodIn_app (goodIn_of _ (by decide +kernel)) ggL_law_X7_read
set_option maxRecDepth 20000 in
theorem ggL_law_X8_read : GoodIn wsL_law wsX8_read := goodIn_r _ [1053, 1054, 99, 87, 96, 97, 98, 1055, 1021, 1022, 5, 1023, 508, 650, 128, 129, 130, 1056, 584, 585, 586, 524, 485, 486, 487, 488, 455, 456, 457, 458, 112, 394, 395, 396, 397, 88, 406, 407, 408, 409, 421, 422, 423, 424, 587, 588, 589, 590, 552, 553, 554, 555, 556, 557, 558, 559, 560, 561, 562, 563, 564, 565, 566, 1094, 1095, 1096, 1097, 1098, 1099, 1100, 1101, 1102, 1103, 1104, 1105, 1106, 1107, 1108, 1109, 1110, 1111, 1112, 1113, 1114, 1115, 1116, 1117, 1118, 1119, 1120, 1121, 1122, 1123] (by decide +kernel) (by decide +kernel)
set_option maxRecDepth 20000 in
theorem gL_law_X8_read : GoodIn wsL_law (wsV RL 176 RX8 yX8_read wsX8_read) := goodIn_app (goodIn_of _ (by decide +kernel)) ggL_law_X8_read
set_option maxRecDepth 20000 in
theorem ggL_law_X7_torn : GoodIn wsL_law wsX7_torn := goodIn_r _ [1060, 1045, 1083, 1084, 1085, 1086, 1087, 1088, 1089, 1090, 1091, 1092, 1093] (by decide +kernel) (by decide +kernel)
set_option maxRecDepth 20000 in
theorem gL_law_X7_torn : GoodIn wsL_law (wsV RL 177 RX7 yX7_torn wsX7_torn) := goodIn_app (goodIn_of _ (by decide +kernel)) ggL_law_X7_torn
set_option maxRecDepth 20000 in
theorem ggL_law_X8_torn : GoodIn wsL_law wsX8_torn := goodIn_r _ [1064, 1055, 1094, 1095, 1096, 1097, 1098, 1099, 1100, 1101, 1102, 1103, 1104, 1105, 1106, 1107, 1108, 1109, 1110, 1111, 1112, 1113, 1114, 1115, 1116, 1117, 1118, 1119, 1120, 1121, 1122, 1123] (by decide +kernel) (by decide +kernel)
set_option maxRecDepth 20000 in
theorem gL_law_X8_torn : GoodIn wsL_law (wsV RL 180 RX8 yX8_torn wsX8_torn) := goodIn_app (goodIn_of _ (by decide +kernel)) ggL_law_X8_torn
set_option maxRecDepth 20000 in
theorem ggL_law_X7_count : GoodIn wsL_law wsX7_count := goodIn_r _ [1068, 28, 147, 40, 117, 34, 1069, 1070, 15, 1071, 1072, 1073, 2, 1074, 30, 148, 1075, 1076, 1077, 14, 1078, 49, 1083, 1084, 1085, 1086, 1087, 1088, 1089, 1090, 1091, 1092, 1093, 1134, 1135, 1136, 1137, 1145, 1146, 1147, 1148, 1149, 1150, 1151, 1152, 1153, 1154, 1155, 1156, 1141, 1142, 1143, 1144, 1138, 1139, 1140, 1124, 1125, 1126, 1127, 1128, 1129, 1130] (by decide +kernel) (by decide +kernel)
set_option maxRecDepth 20000 in
theorem gL_law_X7_count : GoodIn wsL_law (wsV RL 181 RX7 yX7_count wsX7_count) := goodIn_app (goodIn_of _ (by decide +kernel)) ggL_law_X7_count
set_option maxRecDepth 20000 in
theorem ggL_law_X8_count : GoodIn wsL_law wsX8_count := goodIn_r _ [1082, 87, 90, 127, 96, 97, 410, 411, 5, 412, 1094, 1095, 1096, 1097, 1098, 1099, 1100, 1101, 1102, 1103, 1104, 1105, 1106, 1107, 1108, 1109, 1110, 1111, 1112, 1113, 1114, 1115, 1116, 1117, 1118, 1119, 1120, 1121, 1122, 1123] (by decide +kernel) (by decide +kernel)
set_option maxRecDepth 20000 in
theorem gL_law_X8_count : GoodIn wsL_law (wsV RL 184 RX8 yX8_count wsX8_count) := goodIn_app (goodIn_of _ (by decide +kernel)) ggL_law_X8_count
