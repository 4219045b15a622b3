set_option maxRecDepth 20000 in
theorem ggL_law_X8_bond : GoodIn wsL_law wsX8_bond := goodIn_r _ [523, 524, 485, 486, 487, 5, 488, 455, 456, 457, 458, 112, 128, 129, 130, 511, 512, 513, 514, 87, 1094, 1095, 1096, 1097, 1098, 1099, 1100, 1101, 1102, 1103, 1104, 1105, 1106, 1107, 1108, 1109, 1110, 1111, 1112, 1113, 1114, 1115, 1116, 1117, 1118, 1119, 1120, 1121, 1122, 1123] (by decide +kernel) (by decide +kernel)
set_option maxRecDepth 20000 in
theorem gL_law_X8_bond : GoodIn wsL_law (wsV RL 56 RX8 yX8_bond wsX8_bond) := goodIn_app (goodIn_of _ (by decide +kernel)) ggL_law_X8_bond
set_option maxRecDepth 20000 in
theorem ggL_law_X7_dry : GoodIn wsL_law wsX7_dry := goodIn_r _ [528, 15, 369, 119, 120, 2, 121, 1083, 1084, 1085, 1086, 1087, 1088, 1089, 1090, 1091, 1092, 1093, 1124, 1125, 1126, 1127, 1128, 1129, 1130] (by decide +kernel) (by decide +kernel)
set_option maxRecDepth 20000 in
theorem gL_law_X7_dry : GoodIn wsL_law (wsV RL 57 RX7 yX7_dry wsX7_dry) := goodIn_app (goodIn_of _ (by decide +kernel)) ggL_law_X7_dry
set_option maxRecDepth 20000 in
theorem ggL_law_X8_dry : GoodIn wsL_law wsX8_dry := goodIn_r _ [532, 510, 128, 129, 5, 130, 511, 512, 513, 514, 87, 1094, 1095, 1096, 1097, 1098, 1099, 1100, 1101, 1102, 1103, 1104, 1105, 1106, 1107, 1108, 1109, 1110, 1111, 1112, 1113, 1114, 1115, 1116, 1117, 1118, 1119, 1120, 1121, 1122, 1123] (by decide +kernel) (by decide +kernel)
set_option maxRecDepth 20000 in
theorem gL_law_X8_dry : GoodIn wsL_law (wsV RL 60 RX8 yX8_dry wsX8_dry) := goodIn_app (goodIn_of _ (by decide +kernel)) ggL_law_X8_dry
set_option maxRecDepth 20000 in
theorem ggL_law_X7_lend : GoodIn wsL_law wsX7_lend := goodIn_r _ [536, 15, 537, 538, 539, 14, 540, 47, 541, 476, 477, 478, 479, 433, 434, 435, 166, 120, 2, 121, 542, 273, 274, 275, 49, 543, 277, 278, 279, 1083, 1084, 1085, 1086, 1087, 1088, 1089, 1090, 1091, 1092, 1093, 1124, 1125, 1126, 1127, 1128, 1129, 1130] (by decide +kernel) (by decide +kernel)
set_option maxRecDepth 20000 in
theorem gL_law_X7_lend : GoodIn wsL_law (wsV RL 61 RX7 yX7_lend wsX7_lend) := goodIn_app (goodIn_of _ (by decide +kernel)) ggL_law_X7_lend
set_option maxRecDepth 20000 in
theorem ggL_law_X8_lend : GoodIn wsL_law wsX8_lend := goodIn_r _ [547, 524, 485, 486, 487, 5, 488, 455, 456, 457, 458, 112, 128, 129, 130, 394, 395, 396, 397, 88, 87, 548, 549, 550, 551, 421, 422, 423, 424, 406, 407, 408, 409, 552, 553, 554, 555, 556, 557, 558, 559, 560, 561, 562, 563, 564, 565, 566, 1094, 1095, 1096, 1097, 1098, 1099, 1100, 1101, 1102, 1103, 1104, 1105, 1106, 1107, 1108, 1109, 1110, 1111, 1112, 1113, 1114, 1115, 1116, 1117, 1118, 1119, 1120, 1121, 1122, 1123] (by decide +kernel) (by decide +kernel)
set_option maxRecDepth 20000 in
theorem gL_law_X8_lend : GoodIn wsL_law (wsV RL 64 RX8 yX8_lend wsX8_lend) := goodIn_app (goodIn_of _ (by decide +kernel)) ggL_law_X8_lend
set_option maxRecDepth 20000 in
theorem ggL_law_X7_pay : GoodIn wsL_law wsX7_pay := goodIn_r _ [570, 15, 571, 572, 573, 14, 574, 47, 541, 476, 477, 478, 479, 433, 434, 435, 166, 120, 2, 121, 542, 273, 274, 275, 49, 575, 576, 577, 578, 543, 277, 278, 279, 579, 580, 581, 582, 1083, 1084, 1085, 1086, 1087, 1088, 1089, 1090, 1091, 1092, 1093, 1124, 1125, 1126, 1127, 1128, 1129, 1130] (by decide +kernel) (by decide +kernel)
set_option maxRecDepth 20000 in
theorem gL_law_X7_pay : GoodIn wsL_law (wsV RL 65 RX7 yX7_pay wsX7_pay) := goodIn_app (goodIn_of _ (by decide +kernel)) ggL_law_X7_pay
set_option maxRecDepth 20000 in
theorem ggL_law_X8_pay : GoodIn wsL_law wsX8_pay := goodIn_r _ [586, 524, 485, 486, 487, 5, 488, 455, 456, 457, 458, 112, 128, 129, 130, 394, 395, 396, 397, 88, 87, 406, 407, 408, 409, 421, 422, 423, 424, 587, 588, 589, 590, 552, 553, 554, 555, 556, 557, 558, 559, 560, 561, 562, 563, 564, 565, 566, 1094, 1095, 1096, 1097, 1098, 1099, 1100, 1101, 1102, 1103, 1104, 1105, 1106, 1107, 1108, 1109, 1110, 1111, 1112, 1113, 1114, 1115, 1116, 1117, 1118, 1119, 1120, 1121, 1122, 1123] (by decide +kernel) (by decide +kernel)
set_option maxRecDepth 20000 in
theorem gL_law_X8_pay : GoodIn wsL_law (wsV RL 68 RX8 yX8_pay wsX8_pay) := goodIn_app (goodIn_of _ (by decide +kernel)) ggL_law_X8_pay
set_option maxRecDepth 20000 in
theorem ggL_law_X7_days : GoodIn wsL_law wsX7_days := goodIn_r _ [594, 15, 368, 119, 120, 2, 121, 595, 596, 597, 14, 598, 168, 599, 600, 601, 602, 166, 48, 445, 269, 270, 271, 167, 579, 580, 581, 582, 47, 603, 604, 605, 606, 607, 608, 609, 610, 448, 449, 450, 46, 378, 379, 380, 381, 49, 542, 273, 274, 275, 575, 576, 577, 578, 543, 277, 278, 279, 1083, 1084, 1085, 1086, 1087, 1088, 1089, 1090, 1091, 1092, 1093, 1124, 1125, 1126, 1127, 1128, 1129, 1130] (by decide +kernel) (by decide +kernel)
set_option maxRecDepth 20000 in
theorem gL_law_X7_days : GoodIn wsL_law (wsV RL 69 RX7 yX7_days wsX7_days) := goodIn_app (goodIn_of _ (by decide +kernel)) ggL_law_X7_days
set_option maxRecDepth 20000 in
theorem ggL_law_X8_days : GoodIn wsL_law wsX8_days := goodIn_r _ [614, 615, 87, 616, 128, 129, 5, 130, 394, 395, 396, 397, 88, 617, 618, 619, 620, 621, 622, 623, 624, 112, 421, 422, 423, 424, 556, 557, 558, 559, 560, 561, 562, 552, 553, 554, 555, 467, 468, 469, 470, 402, 403, 404, 405, 406, 407, 408, 409, 587, 588, 589, 590, 563, 564, 565, 566, 1094, 1095, 1096, 1097, 1098, 1099, 1100, 1101, 1102, 1103, 1104, 1105, 1106, 1107, 1108, 1109, 1110, 1111, 1112, 1113, 1114, 1115, 1116, 1117, 1118, 1119, 1120, 1121, 1122, 1123] (by decide +kernel) (by decide +kernel)
set_option maxRecDepth 20000 in
theorem gL_law_X8_days : GoodIn wsL_law (wsV RL 72 RX8 yX8_days wsX8_days) := goodIn_app (goodIn_of _ (by decide +kernel)) ggL_law_X8_days
set_option maxRecDepth 20000 in
theorem ggL_law_X7_runs : GoodIn wsL_law wsX7_runs := goodIn_r _ [628, 16, 15, 119, 120, 2, 121, 289, 290, 291, 14, 292, 166, 167, 168, 46, 293, 294, 295, 296, 47, 48, 49, 629, 630, 631, 632, 633, 383, 384, 385, 378, 379, 380, 381, 599, 600, 601, 602, 445, 269, 270, 271, 579, 580, 581, 582, 603, 604, 605, 606, 607, 608, 609, 610, 448, 449, 450, 542, 273, 274, 275, 575, 576, 577, 578, 543, 277, 278, 279, 595, 596, 597, 598, 382, 370, 371, 372, 373, 374, 375, 376, 377, 386, 387, 388, 389, 1083, 1084, 1085, 1086, 1087, 1088, 1089, 1090, 1091, 1092, 1093, 1124, 1125, 1126, 1127, 1128, 1129, 1130] (by decide +kernel) (by decide +kernel)
set_option maxRecDepth 20000 in
theorem gL_law_X7_runs : GoodIn wsL_law (wsV RL 73 RX7 yX7_runs wsX7_runs) := goodIn_app (goodIn_of _ (by decide +kernel)) ggL_law_X7_runs
set_option maxRecDepth 20000 in
theorem ggL_law_X8_runs : GoodIn wsL_law wsX8_runs := goodIn_r _ [637, 508, 638, 639, 5, 640, 641, 128, 129, 130, 394, 395, 396, 397, 88, 87, 413, 414, 415, 416, 112, 402, 403, 404, 405, 406, 407, 408, 409, 621, 622, 623, 624, 616, 421, 422, 423, 424, 556, 557, 558, 559, 560, 561, 562, 552, 553, 554, 555, 467, 468, 469, 470, 587, 588, 589, 590, 398, 399, 400, 401, 410, 411, 412, 417, 418, 419, 420, 1094, 1095, 1096, 1097, 1098, 1099, 1100, 1101, 1102, 1103, 1104, 1105, 1106, 1107, 1108, 1109, 1110, 1111, 1112, 1113, 1114, 1115, 1116, 1117, 1118, 1119, 1120, 1121, 1122, 1123] (by decide +kernel) (by decide +kernel)
set_option maxRecDepth 20000 in
theorem gL_law_X8_runs : GoodIn wsL_law (wsV RL 76 RX8 yX8_runs wsX8_runs) := goodIn_app (goodIn_of _ (by decide +kernel)) ggL_law_X8_runs
set_option maxRecDepth 20000 in
theorem ggL_law_X7_ahead : GoodIn wsL_law wsX7_ahead := goodIn_r _ [645, 15, 16, 430, 432, 433, 434, 14, 435, 166, 119, 120, 2, 121, 289, 290, 291, 292, 167, 168, 46, 293, 294, 295, 296, 47, 48, 49, 595, 596, 597, 598, 599, 600, 601, 602, 445, 269, 270, 271, 579, 580, 581, 582, 603, 604, 605, 606, 607, 608, 609, 610, 448, 449, 450, 378, 379, 380, 381, 542, 273, 274, 275, 575, 576, 577, 578, 543, 277, 278, 279, 436, 441, 442, 443, 444, 374, 375, 376, 377, 446, 438, 439, 440, 1083, 1084, 1085, 1086, 1087, 1088, 1089, 1090, 1091, 1092, 1093, 1124, 1125, 1126, 1127, 1128, 1129, 1130] (by decide +kernel) (by decide +kernel)
set_option maxRecDepth 20000 in
theorem gL_law_X7_ahead : GoodIn wsL_law (wsV RL 77 RX7 yX7_ahead wsX7_ahead) := goodIn_app (goodIn_of _ (by decide +kernel)) ggL_law_X7_ahead
set_option maxRecDepth 20000 in
theorem ggL_law_X8_ahead : GoodIn wsL_law wsX8_ahead := goodIn_r _ [649, 650, 455, 456, 457, 5, 458, 112, 128, 129, 130, 638, 639, 640, 641, 394, 395, 396, 397, 88, 87, 617, 618, 619, 620, 616, 621, 622, 623, 624, 421, 422, 423, 424, 556, 557, 558, 559, 560, 561, 562, 552, 553, 554, 555, 467, 468, 469, 470, 402, 403, 404, 405, 406, 407, 408, 409, 587, 588, 589, 590, 463, 464, 465, 466, 459, 460, 461, 462, 1094, 1095, 1096, 1097, 1098, 1099, 1100, 1101, 1102, 1103, 1104, 1105, 1106, 1107, 1108, 1109, 1110, 1111, 1112, 1113, 1114, 1115, 1116, 1117, 1118, 1119, 1120, 1121, 1122, 1123] (by decide +kernel) (by decide +kernel)
set_option maxRecDepth 20000 in
theorem gL_law_X8_ahead : GoodIn wsL_law (wsV RL 80 RX8 yX8_ahead wsX8_ahead) := goodIn_app (goodIn_of _ (by decide +kernel)) ggL_law_X8_ahead
set_option maxRecDepth 20000 in
theorem ggL_law_X7_rides : GoodIn wsL_law wsX7_rides := goodIn_r _ [654, 15, 16, 432, 433, 434, 14, 435, 166, 289, 290, 291, 292, 167, 168, 46, 293, 294, 295, 296, 47, 48, 49, 655, 656, 657, 658, 374, 375, 376, 377, 378, 379, 380, 381, 599, 600, 601, 602, 445, 269, 270, 271, 579, 580, 581, 582, 603, 604, 605, 606, 607, 608, 609, 610, 448, 449, 450, 542, 273, 274, 275, 575, 576, 577, 578, 543, 277, 278, 279, 1083, 1084, 1085, 1086, 1087, 1088, 1089, 1090, 1091, 1092, 1093, 1124, 1125, 1126, 1127, 1128, 1129, 1130] (by decide +kernel) (by decide +kernel)
set_option maxRecDepth 20000 in
theorem gL_law_X7_rides : GoodIn wsL_law (wsV RL 81 RX7 yX7_rides wsX7_rides) := goodIn_app (goodIn_of _ (by decide +kernel)) ggL_law_X7_rides
set_option maxRecDepth 20000 in
theorem ggL_law_X8_rides : GoodIn wsL_law wsX8_rides := goodIn_r _ [662, 455, 456, 457, 5, 458, 112, 128, 129, 130, 394, 395, 396, 397, 88, 87, 663, 664, 665, 666, 402, 403, 404, 405, 406, 407, 408, 409, 621, 622, 623, 624, 616, 421, 422, 423, 424, 556, 557, 558, 559, 560, 561, 562, 552, 553, 554, 555, 467, 468, 469, 470, 587, 588, 589, 590, 1094, 1095, 1096, 1097, 1098, 1099, 1100, 1101, 1102, 1103, 1104, 1105, 1106, 1107, 1108, 1109, 1110, 1111, 1112, 1113, 1114, 1115, 1116, 1117, 1118, 1119, 1120, 1121, 1122, 1123] (by decide +kernel) (by decide +kernel)
set_option maxRecDepth 20000 in
theorem gL_law_X8_rides : GoodIn wsL_law (wsV RL 84 RX8 yX8_rides wsX8_rides) := goodIn_app (goodIn_of _ (by decide +kernel)) ggL_law_X8_rides
set_option maxRecDepth 20000 in
theorem ggL_law_X7_net : GoodIn wsL_law wsX7_net := goodIn_r _ [670, 15, 432, 433, 434, 14, 435, 166, 671, 672, 673, 674, 378, 379, 380, 381, 49, 446, 438, 439, 440, 1083, 1084, 1085, 1086, 1087, 1088, 1089, 1090, 1091, 1092, 1093, 1124, 1125, 1126, 1127, 1128, 1129, 1130] (by decide +kernel) (by decide +kernel)
set_option maxRecDepth 20000 in
theorem gL_law_X7_net : GoodIn wsL_law (wsV RL 85 RX7 yX7_net wsX7_net) := goodIn_app (goodIn_of _ (by decide +kernel)) ggL_law_X7_net
set_option maxRecDepth 20000 in
theorem ggL_law_X8_net : GoodIn wsL_law wsX8_net := goodIn_r _ [678, 455, 456, 457, 5, 458, 112, 128, 129, 130, 394, 395, 396, 397, 88, 87, 679, 680, 681, 682, 402, 403, 404, 405, 406, 407, 408, 409, 459, 460, 461, 462, 1094, 1095, 1096, 1097, 1098, 1099, 1100, 1101, 1102, 1103, 1104, 1105, 1106, 1107, 1108, 1109, 1110, 1111, 1112, 1113, 1114, 1115, 1116, 1117, 1118, 1119, 1120, 1121, 1122, 1123] (by decide +kernel) (by decide +kernel)
set_option maxRecDepth 20000 in
theorem gL_law_X8_net : GoodIn wsL_law (wsV RL 88 RX8 yX8_net wsX8_net) := goodIn_app (goodIn_of _ (by decide +kernel)) ggL_law_X8_net
set_option maxRecDepth 20000 in
theorem ggL_law_X7_least : GoodIn wsL_law wsX7_least := goodIn_r _ [686, 15, 367, 687, 269, 270, 271, 671, 672, 673, 14, 674, 378, 379, 380, 381, 166, 49, 446, 438, 439, 440, 1083, 1084, 1085, 1086, 1087, 1088, 1089, 1090, 1091, 1092, 1093, 1124, 1125, 1126, 1127, 1128, 1129, 1130] (by decide +kernel) (by decide +kernel)
set_option maxRecDepth 20000 in
theorem gL_law_X7_least : GoodIn wsL_law (wsV RL 89 RX7 yX7_least wsX7_least) := goodIn_app (goodIn_of _ (by decide +kernel)) ggL_law_X7_least
set_option maxRecDepth 20000 in
theorem ggL_law_X8_least : GoodIn wsL_law wsX8_least := goodIn_r _ [691, 112, 394, 395, 396, 5, 397, 88, 87, 679, 680, 681, 682, 402, 403, 404, 405, 406, 407, 408, 409, 459, 460, 461, 462, 1094, 1095, 1096, 1097, 1098, 1099, 1100, 1101, 1102, 1103, 1104, 1105, 1106, 1107, 1108, 1109, 1110, 1111, 1112, 1113, 1114, 1115, 1116, 1117, 1118, 1119, 1120, 1121, 1122, 1123] (by decide +kernel) (by decide +kernel)
set_option maxRecDepth 20000 in
theorem gL_law_X8_least : GoodIn wsL_law (wsV RL 92 RX8 yX8_least wsX8_least) := goodIn_app (goodIn_of _ (by decide +kernel)) ggL_law_X8_least
set_option maxRecDepth 20000 in
theorem ggL_law_X7_ring : GoodIn wsL_law wsX7_ring := goodIn_r _ [695, 24, 15, 696, 697, 119, 120, 2, 121, 698, 699, 700, 23, 701, 702, 703, 59, 704, 705, 706, 707, 708, 273, 274, 14, 275, 49, 709, 710, 711, 712, 713, 714, 715, 716, 717, 608, 270, 609, 718, 719, 720, 721, 1083, 1084, 1085, 1086, 1087, 1088, 1089, 1090, 1091, 1092, 1093, 1132, 1133, 1124, 1125, 1126, 1127, 1128, 1129, 1130] (by decide +kernel) (by decide +kernel)
set_option maxRecDepth 20000 in
theorem gL_law_X7_ring : GoodIn wsL_law (wsV RL 93 RX7 yX7_ring wsX7_ring) := goodIn_app (goodIn_of _ (by decide +kernel)) ggL_law_X7_ring
set_option maxRecDepth 20000 in
theorem ggL_law_X8_ring : GoodIn wsL_law wsX8_ring := goodIn_r _ [725, 726, 727, 728, 93, 729, 730, 5, 731, 128, 129, 130, 394, 395, 396, 397, 88, 87, 732, 733, 734, 735, 112, 736, 737, 738, 739, 406, 407, 408, 409, 560, 561, 562, 1094, 1095, 1096, 1097, 1098, 1099, 1100, 1101, 1102, 1103, 1104, 1105, 1106, 1107, 1108, 1109, 1110, 1111, 1112, 1113, 1114, 1115, 1116, 1117, 1118, 1119, 1120, 1121, 1122, 1123] (by decide +kernel) (by decide +kernel)
set_option maxRecDepth 20000 in
theorem gL_law_X8_ring : GoodIn wsL_law (wsV RL 96 RX8 yX8_ring wsX8_ring) := goodIn_app (goodIn_of _ (by decide +kernel)) ggL_law_X8_ring
