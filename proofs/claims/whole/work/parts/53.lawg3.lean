set_option maxRecDepth 20000 in
theorem ggL_law_X8_kinds : GoodIn wsL_law wsX8_kinds := goodIn_r _ [929, 456, 457, 458, 5, 459, 112, 128, 129, 130, 930, 931, 932, 933, 934, 935, 936, 937, 94, 87, 395, 396, 397, 398, 88, 552, 553, 554, 555, 399, 400, 401, 402, 403, 404, 405, 406, 407, 408, 409, 410, 411, 412, 413, 621, 622, 623, 624, 616, 422, 423, 424, 425, 556, 557, 558, 559, 560, 561, 562, 468, 469, 470, 471, 587, 588, 589, 590, 1095, 1096, 1097, 1098, 1099, 1100, 1101, 1102, 1103, 1104, 1105, 1106, 1107, 1108, 1109, 1110, 1111, 1112, 1113, 1114, 1115, 1116, 1117, 1118, 1119, 1120, 1121, 1122, 1123, 1124] (by decide +kernel) (by decide +kernel)
set_option maxRecDepth 20000 in
theorem gL_law_X8_kinds : GoodIn wsL_law (wsV RL 143 RX8 yX8_kinds wsX8_kinds) := goodIn_app (goodIn_of _ (by decide +kernel)) ggL_law_X8_kinds
set_option maxRecDepth 20000 in
theorem ggL_law_X7_earns : GoodIn wsL_law wsX7_earns := goodIn_r _ [941, 15, 433, 434, 435, 14, 436, 166, 942, 943, 944, 2, 945, 16, 432, 28, 289, 290, 291, 292, 167, 168, 46, 293, 294, 295, 296, 47, 48, 49, 910, 911, 912, 27, 913, 914, 915, 916, 917, 918, 893, 63, 919, 269, 270, 271, 920, 921, 922, 923, 64, 65, 924, 375, 376, 377, 378, 379, 380, 381, 382, 273, 274, 275, 925, 600, 601, 602, 446, 579, 580, 581, 582, 603, 604, 605, 606, 607, 608, 609, 610, 449, 450, 451, 575, 576, 577, 578, 543, 277, 278, 279, 1084, 1085, 1086, 1087, 1088, 1089, 1090, 1091, 1092, 1093, 1094, 1125, 1126, 1127, 1128, 1129, 1130, 1131, 1135, 1136, 1137, 1138] (by decide +kernel) (by decide +kernel)
set_option maxRecDepth 20000 in
theorem gL_law_X7_earns : GoodIn wsL_law (wsV RL 144 RX7 yX7_earns wsX7_earns) := goodIn_app (goodIn_of _ (by decide +kernel)) ggL_law_X7_earns
set_option maxRecDepth 20000 in
theorem ggL_law_X8_earns : GoodIn wsL_law wsX8_earns := goodIn_r _ [949, 456, 457, 458, 5, 459, 112, 128, 129, 130, 930, 931, 932, 933, 934, 935, 936, 937, 94, 87, 395, 396, 397, 398, 88, 552, 553, 554, 555, 399, 400, 401, 402, 403, 404, 405, 406, 407, 408, 409, 410, 411, 412, 413, 621, 622, 623, 624, 616, 422, 423, 424, 425, 556, 557, 558, 559, 560, 561, 562, 468, 469, 470, 471, 587, 588, 589, 590, 1095, 1096, 1097, 1098, 1099, 1100, 1101, 1102, 1103, 1104, 1105, 1106, 1107, 1108, 1109, 1110, 1111, 1112, 1113, 1114, 1115, 1116, 1117, 1118, 1119, 1120, 1121, 1122, 1123, 1124] (by decide +kernel) (by decide +kernel)
set_option maxRecDepth 20000 in
theorem gL_law_X8_earns : GoodIn wsL_law (wsV RL 147 RX8 yX8_earns wsX8_earns) := goodIn_app (goodIn_of _ (by decide +kernel)) ggL_law_X8_earns
set_option maxRecDepth 20000 in
theorem ggL_law_X7_ask : GoodIn wsL_law wsX7_ask := goodIn_r _ [953, 15, 42, 687, 269, 270, 271, 433, 434, 435, 14, 436, 166, 119, 120, 2, 121, 942, 943, 944, 945, 16, 432, 28, 289, 290, 291, 292, 167, 168, 46, 293, 294, 295, 296, 47, 48, 49, 910, 911, 912, 27, 913, 914, 915, 916, 917, 918, 893, 63, 919, 920, 921, 922, 923, 64, 65, 924, 375, 376, 377, 378, 379, 380, 381, 382, 273, 274, 275, 925, 600, 601, 602, 446, 579, 580, 581, 582, 603, 604, 605, 606, 607, 608, 609, 610, 449, 450, 451, 575, 576, 577, 578, 543, 277, 278, 279, 954, 955, 956, 957, 369, 958, 170, 171, 172, 959, 960, 961, 764, 765, 766, 767, 768, 769, 1084, 1085, 1086, 1087, 1088, 1089, 1090, 1091, 1092, 1093, 1094, 1125, 1126, 1127, 1128, 1129, 1130, 1131, 1135, 1136, 1137, 1138] (by decide +kernel) (by decide +kernel)
set_option maxRecDepth 20000 in
theorem gL_law_X7_ask : GoodIn wsL_law (wsV RL 148 RX7 yX7_ask wsX7_ask) := goodIn_app (goodIn_of _ (by decide +kernel)) ggL_law_X7_ask
set_option maxRecDepth 20000 in
theorem ggL_law_X8_ask : GoodIn wsL_law wsX8_ask := goodIn_r _ [965, 95, 94, 456, 457, 458, 5, 459, 112, 128, 129, 130, 729, 730, 731, 934, 935, 936, 937, 87, 395, 396, 397, 398, 88, 552, 553, 554, 555, 399, 400, 401, 402, 403, 404, 405, 406, 407, 408, 409, 410, 411, 412, 413, 621, 622, 623, 624, 616, 422, 423, 424, 425, 556, 557, 558, 559, 560, 561, 562, 468, 469, 470, 471, 587, 588, 589, 590, 1095, 1096, 1097, 1098, 1099, 1100, 1101, 1102, 1103, 1104, 1105, 1106, 1107, 1108, 1109, 1110, 1111, 1112, 1113, 1114, 1115, 1116, 1117, 1118, 1119, 1120, 1121, 1122, 1123, 1124] (by decide +kernel) (by decide +kernel)
set_option maxRecDepth 20000 in
theorem gL_law_X8_ask : GoodIn wsL_law (wsV RL 151 RX8 yX8_ask wsX8_ask) := goodIn_app (goodIn_of _ (by decide +kernel)) ggL_law_X8_ask
set_option maxRecDepth 20000 in
theorem ggL_law_X7_drift : GoodIn wsL_law wsX7_drift := goodIn_r _ [969, 15, 367, 16, 970, 369, 119, 120, 2, 121, 289, 290, 291, 14, 292, 166, 167, 168, 46, 293, 294, 295, 296, 47, 48, 49, 538, 539, 540, 541, 542, 477, 478, 479, 480, 434, 435, 436, 382, 273, 274, 275, 543, 277, 278, 279, 960, 600, 601, 602, 446, 269, 270, 271, 579, 580, 581, 582, 603, 604, 605, 606, 607, 608, 609, 610, 449, 450, 451, 378, 379, 380, 381, 575, 576, 577, 578, 383, 384, 385, 386, 370, 371, 372, 373, 374, 375, 376, 377, 1084, 1085, 1086, 1087, 1088, 1089, 1090, 1091, 1092, 1093, 1094, 1125, 1126, 1127, 1128, 1129, 1130, 1131] (by decide +kernel) (by decide +kernel)
set_option maxRecDepth 20000 in
theorem gL_law_X7_drift : GoodIn wsL_law (wsV RL 152 RX7 yX7_drift wsX7_drift) := goodIn_app (goodIn_of _ (by decide +kernel)) ggL_law_X7_drift
set_option maxRecDepth 20000 in
theorem ggL_law_X8_drift : GoodIn wsL_law wsX8_drift := goodIn_r _ [974, 641, 112, 975, 128, 129, 5, 130, 729, 730, 731, 395, 396, 397, 398, 88, 87, 548, 549, 550, 551, 422, 423, 424, 425, 407, 408, 409, 410, 552, 553, 554, 555, 556, 557, 558, 559, 560, 561, 562, 621, 622, 623, 624, 616, 468, 469, 470, 471, 403, 404, 405, 406, 587, 588, 589, 590, 414, 415, 416, 417, 399, 400, 401, 402, 411, 412, 413, 1095, 1096, 1097, 1098, 1099, 1100, 1101, 1102, 1103, 1104, 1105, 1106, 1107, 1108, 1109, 1110, 1111, 1112, 1113, 1114, 1115, 1116, 1117, 1118, 1119, 1120, 1121, 1122, 1123, 1124] (by decide +kernel) (by decide +kernel)
set_option maxRecDepth 20000 in
theorem gL_law_X8_drift : GoodIn wsL_law (wsV RL 155 RX8 yX8_drift wsX8_drift) := goodIn_app (goodIn_of _ (by decide +kernel)) ggL_law_X8_drift
set_option maxRecDepth 20000 in
theorem ggL_law_X7_keep : GoodIn wsL_law wsX7_keep := goodIn_r _ [979, 30, 148, 980, 15, 981, 28, 119, 120, 2, 121, 289, 290, 291, 14, 292, 166, 167, 168, 46, 293, 294, 295, 296, 47, 48, 49, 982, 983, 984, 27, 985, 893, 63, 986, 64, 65, 1084, 1085, 1086, 1087, 1088, 1089, 1090, 1091, 1092, 1093, 1094, 1139, 1140, 1141, 1125, 1126, 1127, 1128, 1129, 1130, 1131, 1135, 1136, 1137, 1138] (by decide +kernel) (by decide +kernel)
set_option maxRecDepth 20000 in
theorem gL_law_X7_keep : GoodIn wsL_law (wsV RL 156 RX7 yX7_keep wsX7_keep) := goodIn_app (goodIn_of _ (by decide +kernel)) ggL_law_X7_keep
set_option maxRecDepth 20000 in
theorem ggL_law_X8_keep : GoodIn wsL_law wsX8_keep := goodIn_r _ [990, 90, 128, 129, 5, 130, 411, 412, 413, 991, 992, 993, 994, 87, 1095, 1096, 1097, 1098, 1099, 1100, 1101, 1102, 1103, 1104, 1105, 1106, 1107, 1108, 1109, 1110, 1111, 1112, 1113, 1114, 1115, 1116, 1117, 1118, 1119, 1120, 1121, 1122, 1123, 1124] (by decide +kernel) (by decide +kernel)
set_option maxRecDepth 20000 in
theorem gL_law_X8_keep : GoodIn wsL_law (wsV RL 159 RX8 yX8_keep wsX8_keep) := goodIn_app (goodIn_of _ (by decide +kernel)) ggL_law_X8_keep
set_option maxRecDepth 20000 in
theorem ggL_law_X7_back : GoodIn wsL_law wsX7_back := goodIn_r _ [998, 30, 148, 15, 980, 28, 981, 368, 119, 120, 2, 121, 289, 290, 291, 14, 292, 166, 167, 168, 46, 293, 294, 295, 296, 47, 48, 49, 982, 983, 984, 27, 985, 893, 63, 986, 64, 65, 1084, 1085, 1086, 1087, 1088, 1089, 1090, 1091, 1092, 1093, 1094, 1139, 1140, 1141, 1125, 1126, 1127, 1128, 1129, 1130, 1131, 1135, 1136, 1137, 1138] (by decide +kernel) (by decide +kernel)
set_option maxRecDepth 20000 in
theorem gL_law_X7_back : GoodIn wsL_law (wsV RL 160 RX7 yX7_back wsX7_back) := goodIn_app (goodIn_of _ (by decide +kernel)) ggL_law_X7_back
set_option maxRecDepth 20000 in
theorem ggL_law_X8_back : GoodIn wsL_law wsX8_back := goodIn_r _ [1002, 90, 87, 128, 129, 5, 130, 991, 992, 993, 994, 1095, 1096, 1097, 1098, 1099, 1100, 1101, 1102, 1103, 1104, 1105, 1106, 1107, 1108, 1109, 1110, 1111, 1112, 1113, 1114, 1115, 1116, 1117, 1118, 1119, 1120, 1121, 1122, 1123, 1124] (by decide +kernel) (by decide +kernel)
set_option maxRecDepth 20000 in
theorem gL_law_X8_back : GoodIn wsL_law (wsV RL 163 RX8 yX8_back wsX8_back) := goodIn_app (goodIn_of _ (by decide +kernel)) ggL_law_X8_back
set_option maxRecDepth 20000 in
theorem ggL_law_X7_sheet : GoodIn wsL_law wsX7_sheet := goodIn_r _ [1006, 34, 1007, 1008, 2, 1009, 119, 120, 121, 1010, 1011, 1012, 36, 1013, 1014, 1015, 1016, 76, 1017, 170, 171, 172, 1084, 1085, 1086, 1087, 1088, 1089, 1090, 1091, 1092, 1093, 1094, 1142, 1143, 1144, 1145] (by decide +kernel) (by decide +kernel)
set_option maxRecDepth 20000 in
theorem gL_law_X7_sheet : GoodIn wsL_law (wsV RL 164 RX7 yX7_sheet wsX7_sheet) := goodIn_app (goodIn_of _ (by decide +kernel)) ggL_law_X7_sheet
set_option maxRecDepth 20000 in
theorem ggL_law_X8_sheet : GoodIn wsL_law wsX8_sheet := goodIn_r _ [1021, 96, 97, 98, 1022, 1023, 5, 1024, 509, 650, 128, 129, 130, 1095, 1096, 1097, 1098, 1099, 1100, 1101, 1102, 1103, 1104, 1105, 1106, 1107, 1108, 1109, 1110, 1111, 1112, 1113, 1114, 1115, 1116, 1117, 1118, 1119, 1120, 1121, 1122, 1123, 1124] (by decide +kernel) (by decide +kernel)
set_option maxRecDepth 20000 in
theorem gL_law_X8_sheet : GoodIn wsL_law (wsV RL 167 RX8 yX8_sheet wsX8_sheet) := goodIn_app (goodIn_of _ (by decide +kernel)) ggL_law_X8_sheet
set_option maxRecDepth 20000 in
theorem ggL_law_X7_lay : GoodIn wsL_law wsX7_lay := goodIn_r _ [1028, 34, 1007, 1008, 2, 1009, 119, 120, 121, 1029, 1030, 1031, 36, 1032, 1014, 1016, 1033, 1034, 1035, 1036, 1015, 76, 1084, 1085, 1086, 1087, 1088, 1089, 1090, 1091, 1092, 1093, 1094, 1142, 1143, 1144, 1145] (by decide +kernel) (by decide +kernel)
set_option maxRecDepth 20000 in
theorem gL_law_X7_lay : GoodIn wsL_law (wsV RL 168 RX7 yX7_lay wsX7_lay) := goodIn_app (goodIn_of _ (by decide +kernel)) ggL_law_X7_lay
set_option maxRecDepth 20000 in
theorem ggL_law_X8_lay : GoodIn wsL_law wsX8_lay := goodIn_r _ [1040, 96, 97, 98, 1022, 1023, 5, 1024, 509, 650, 128, 129, 130, 1095, 1096, 1097, 1098, 1099, 1100, 1101, 1102, 1103, 1104, 1105, 1106, 1107, 1108, 1109, 1110, 1111, 1112, 1113, 1114, 1115, 1116, 1117, 1118, 1119, 1120, 1121, 1122, 1123, 1124] (by decide +kernel) (by decide +kernel)
set_option maxRecDepth 20000 in
theorem gL_law_X8_lay : GoodIn wsL_law (wsV RL 171 RX8 yX8_lay wsX8_lay) := goodIn_app (goodIn_of _ (by decide +kernel)) ggL_law_X8_lay
set_option maxRecDepth 20000 in
theorem ggL_law_X7_read : GoodIn wsL_law wsX7_read := goodIn_r _ [1044, 34, 16, 15, 1045, 1046, 1007, 1008, 2, 1009, 119, 120, 121, 289, 290, 291, 14, 292, 166, 167, 168, 46, 293, 294, 295, 296, 47, 48, 49, 1047, 1048, 1049, 36, 1050, 1014, 1015, 1016, 571, 572, 573, 574, 542, 477, 478, 479, 480, 434, 435, 436, 382, 273, 274, 275, 575, 576, 577, 578, 543, 277, 278, 279, 579, 580, 581, 582, 1084, 1085, 1086, 1087, 1088, 1089, 1090, 1091, 1092, 1093, 1094, 1142, 1143, 1144, 1145, 1125, 1126, 1127, 1128, 1129, 1130, 1131] (by decide +kernel) (by decide +kernel)
set_option maxRecDepth 20000 in
theorem gL_law_X7_read : GoodIn wsL_law (wsV RL 172 RX7 yX7_read wsX7_read) := goodIn_app (goodIn_of _ (by decide +kernel)) ggL_law_X7_read
set_option maxRecDepth 20000 in
theorem ggL_law_X8_read : GoodIn wsL_law wsX8_read := goodIn_r _ [1054, 1055, 99, 87, 96, 97, 98, 1056, 1022, 1023, 5, 1024, 509, 650, 128, 129, 130, 1057, 584, 585, 586, 525, 486, 487, 488, 489, 456, 457, 458, 459, 112, 395, 396, 397, 398, 88, 407, 408, 409, 410, 422, 423, 424, 425, 587, 588, 589, 590, 552, 553, 554, 555, 556, 557, 558, 559, 560, 561, 562, 563, 564, 565, 566, 1095, 1096, 1097, 1098, 1099, 1100, 1101, 1102, 1103, 1104, 1105, 1106, 1107, 1108, 1109, 1110, 1111, 1112, 1113, 1114, 1115, 1116, 1117, 1118, 1119, 1120, 1121, 1122, 1123, 1124] (by decide +kernel) (by decide +kernel)
set_option maxRecDepth 20000 in
theorem gL_law_X8_read : GoodIn wsL_law (wsV RL 176 RX8 yX8_read wsX8_read) := goodIn_app (goodIn_of _ (by decide +kernel)) ggL_law_X8_read
set_option maxRecDepth 20000 in
theorem ggL_law_X7_torn : GoodIn wsL_law wsX7_torn := goodIn_r _ [1061, 1046, 1084, 1085, 1086, 1087, 1088, 1089, 1090, 1091, 1092, 1093, 1094] (by decide +kernel) (by decide +kernel)
set_option maxRecDepth 20000 in
theorem gL_law_X7_torn : GoodIn wsL_law (wsV RL 177 RX7 yX7_torn wsX7_torn) := goodIn_app (goodIn_of _ (by decide +kernel)) ggL_law_X7_torn
set_option maxRecDepth 20000 in
theorem ggL_law_X8_torn : GoodIn wsL_law wsX8_torn := goodIn_r _ [1065, 1056, 1095, 1096, 1097, 1098, 1099, 1100, 1101, 1102, 1103, 1104, 1105, 1106, 1107, 1108, 1109, 1110, 1111, 1112, 1113, 1114, 1115, 1116, 1117, 1118, 1119, 1120, 1121, 1122, 1123, 1124] (by decide +kernel) (by decide +kernel)
set_option maxRecDepth 20000 in
theorem gL_law_X8_torn : GoodIn wsL_law (wsV RL 180 RX8 yX8_torn wsX8_torn) := goodIn_app (goodIn_of _ (by decide +kernel)) ggL_law_X8_torn
set_option maxRecDepth 20000 in
theorem ggL_law_X7_count : GoodIn wsL_law wsX7_count := goodIn_r _ [1069, 28, 147, 40, 117, 34, 1070, 1071, 15, 1072, 1073, 1074, 2, 1075, 30, 148, 1076, 1077, 1078, 14, 1079, 49, 1084, 1085, 1086, 1087, 1088, 1089, 1090, 1091, 1092, 1093, 1094, 1135, 1136, 1137, 1138, 1146, 1147, 1148, 1149, 1150, 1151, 1152, 1153, 1154, 1155, 1156, 1157, 1142, 1143, 1144, 1145, 1139, 1140, 1141, 1125, 1126, 1127, 1128, 1129, 1130, 1131] (by decide +kernel) (by decide +kernel)
set_option maxRecDepth 20000 in
theorem gL_law_X7_count : GoodIn wsL_law (wsV RL 181 RX7 yX7_count wsX7_count) := goodIn_app (goodIn_of _ (by decide +kernel)) ggL_law_X7_count
set_option maxRecDepth 20000 in
theorem ggL_law_X8_count : GoodIn wsL_law wsX8_count := goodIn_r _ [1083, 87, 90, 127, 96, 97, 411, 412, 5, 413, 1095, 1096, 1097, 1098, 1099, 1100, 1101, 1102, 1103, 1104, 1105, 1106, 1107, 1108, 1109, 1110, 1111, 1112, 1113, 1114, 1115, 1116, 1117, 1118, 1119, 1120, 1121, 1122, 1123, 1124] (by decide +kernel) (by decide +kernel)
set_option maxRecDepth 20000 in
theorem gL_law_X8_count : GoodIn wsL_law (wsV RL 184 RX8 yX8_count wsX8_count) := goodIn_app (goodIn_of _ (by decide +kernel)) ggL_law_X8_count
