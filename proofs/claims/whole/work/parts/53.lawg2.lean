set_option maxRecDepth 20000 in
theorem ggL_law_X7_clear : GoodIn wsL_law wsX7_clear := goodIn_r _ [743, 15, 24, 382, 383, 384, 14, 385, 166, 378, 379, 380, 381, 49, 698, 699, 700, 23, 701, 702, 703, 59, 704, 705, 706, 707, 708, 273, 274, 275, 709, 710, 711, 712, 713, 714, 715, 716, 717, 608, 270, 609, 718, 719, 720, 721, 744, 745, 746, 747, 748, 277, 278, 279, 1083, 1084, 1085, 1086, 1087, 1088, 1089, 1090, 1091, 1092, 1093, 1124, 1125, 1126, 1127, 1128, 1129, 1130, 1132, 1133] (by decide +kernel) (by decide +kernel)
set_option maxRecDepth 20000 in
theorem gL_law_X7_clear : GoodIn wsL_law (wsV RL 97 RX7 yX7_clear wsX7_clear) := goodIn_app (goodIn_of _ (by decide +kernel)) ggL_law_X7_clear
set_option maxRecDepth 20000 in
theorem ggL_law_X8_clear : GoodIn wsL_law wsX8_clear := goodIn_r _ [752, 88, 93, 728, 394, 395, 396, 5, 397, 87, 413, 414, 415, 416, 112, 402, 403, 404, 405, 406, 407, 408, 409, 732, 733, 734, 735, 736, 737, 738, 739, 560, 561, 562, 563, 564, 565, 566, 1094, 1095, 1096, 1097, 1098, 1099, 1100, 1101, 1102, 1103, 1104, 1105, 1106, 1107, 1108, 1109, 1110, 1111, 1112, 1113, 1114, 1115, 1116, 1117, 1118, 1119, 1120, 1121, 1122, 1123] (by decide +kernel) (by decide +kernel)
set_option maxRecDepth 20000 in
theorem gL_law_X8_clear : GoodIn wsL_law (wsV RL 100 RX8 yX8_clear wsX8_clear) := goodIn_app (goodIn_of _ (by decide +kernel)) ggL_law_X8_clear
set_option maxRecDepth 20000 in
theorem ggL_law_X7_give : GoodIn wsL_law wsX7_give := goodIn_r _ [756, 16, 15, 367, 119, 120, 2, 121, 289, 290, 291, 14, 292, 166, 167, 168, 46, 293, 294, 295, 296, 47, 48, 49, 757, 758, 759, 760, 599, 600, 601, 602, 445, 269, 270, 271, 579, 580, 581, 582, 603, 604, 605, 606, 607, 608, 609, 610, 448, 449, 450, 378, 379, 380, 381, 542, 273, 274, 275, 575, 576, 577, 578, 543, 277, 278, 279, 761, 371, 372, 373, 374, 375, 376, 377, 762, 763, 764, 765, 766, 767, 768, 769, 1083, 1084, 1085, 1086, 1087, 1088, 1089, 1090, 1091, 1092, 1093, 1124, 1125, 1126, 1127, 1128, 1129, 1130] (by decide +kernel) (by decide +kernel)
set_option maxRecDepth 20000 in
theorem gL_law_X7_give : GoodIn wsL_law (wsV RL 101 RX7 yX7_give wsX7_give) := goodIn_app (goodIn_of _ (by decide +kernel)) ggL_law_X7_give
set_option maxRecDepth 20000 in
theorem ggL_law_X8_give : GoodIn wsL_law wsX8_give := goodIn_r _ [773, 524, 112, 128, 129, 5, 130, 729, 730, 731, 394, 395, 396, 397, 88, 87, 774, 775, 776, 777, 617, 618, 619, 620, 616, 621, 622, 623, 624, 421, 422, 423, 424, 556, 557, 558, 559, 560, 561, 562, 552, 553, 554, 555, 467, 468, 469, 470, 402, 403, 404, 405, 406, 407, 408, 409, 587, 588, 589, 590, 778, 779, 780, 781, 410, 411, 412, 1094, 1095, 1096, 1097, 1098, 1099, 1100, 1101, 1102, 1103, 1104, 1105, 1106, 1107, 1108, 1109, 1110, 1111, 1112, 1113, 1114, 1115, 1116, 1117, 1118, 1119, 1120, 1121, 1122, 1123] (by decide +kernel) (by decide +kernel)
set_option maxRecDepth 20000 in
theorem gL_law_X8_give : GoodIn wsL_law (wsV RL 104 RX8 yX8_give wsX8_give) := goodIn_app (goodIn_of _ (by decide +kernel)) ggL_law_X8_give
set_option maxRecDepth 20000 in
theorem ggL_law_X7_forgive : GoodIn wsL_law wsX7_forgive := goodIn_r _ [785, 16, 15, 367, 119, 120, 2, 121, 289, 290, 291, 14, 292, 166, 167, 168, 46, 293, 294, 295, 296, 47, 48, 49, 757, 758, 759, 760, 599, 600, 601, 602, 445, 269, 270, 271, 579, 580, 581, 582, 603, 604, 605, 606, 607, 608, 609, 610, 448, 449, 450, 378, 379, 380, 381, 542, 273, 274, 275, 575, 576, 577, 578, 543, 277, 278, 279, 761, 371, 372, 373, 374, 375, 376, 377, 762, 763, 764, 765, 766, 767, 768, 480, 786, 787, 788, 789, 519, 1083, 1084, 1085, 1086, 1087, 1088, 1089, 1090, 1091, 1092, 1093, 1124, 1125, 1126, 1127, 1128, 1129, 1130] (by decide +kernel) (by decide +kernel)
set_option maxRecDepth 20000 in
theorem gL_law_X7_forgive : GoodIn wsL_law (wsV RL 105 RX7 yX7_forgive wsX7_forgive) := goodIn_app (goodIn_of _ (by decide +kernel)) ggL_law_X7_forgive
set_option maxRecDepth 20000 in
theorem ggL_law_X8_forgive : GoodIn wsL_law wsX8_forgive := goodIn_r _ [793, 112, 88, 729, 730, 5, 731, 128, 129, 130, 394, 395, 396, 397, 87, 774, 775, 776, 777, 617, 618, 619, 620, 616, 621, 622, 623, 624, 421, 422, 423, 424, 556, 557, 558, 559, 560, 561, 562, 552, 553, 554, 555, 467, 468, 469, 470, 402, 403, 404, 405, 406, 407, 408, 409, 587, 588, 589, 590, 778, 779, 780, 781, 410, 411, 412, 1094, 1095, 1096, 1097, 1098, 1099, 1100, 1101, 1102, 1103, 1104, 1105, 1106, 1107, 1108, 1109, 1110, 1111, 1112, 1113, 1114, 1115, 1116, 1117, 1118, 1119, 1120, 1121, 1122, 1123] (by decide +kernel) (by decide +kernel)
set_option maxRecDepth 20000 in
theorem gL_law_X8_forgive : GoodIn wsL_law (wsV RL 108 RX8 yX8_forgive wsX8_forgive) := goodIn_app (goodIn_of _ (by decide +kernel)) ggL_law_X8_forgive
set_option maxRecDepth 20000 in
theorem ggL_law_X7_kind : GoodIn wsL_law wsX7_kind := goodIn_r _ [797, 15, 16, 429, 432, 433, 434, 14, 435, 166, 119, 120, 2, 121, 289, 290, 291, 292, 167, 168, 46, 293, 294, 295, 296, 47, 48, 49, 655, 656, 657, 658, 374, 375, 376, 377, 378, 379, 380, 381, 599, 600, 601, 602, 445, 269, 270, 271, 579, 580, 581, 582, 603, 604, 605, 606, 607, 608, 609, 610, 448, 449, 450, 542, 273, 274, 275, 575, 576, 577, 578, 543, 277, 278, 279, 1083, 1084, 1085, 1086, 1087, 1088, 1089, 1090, 1091, 1092, 1093, 1124, 1125, 1126, 1127, 1128, 1129, 1130] (by decide +kernel) (by decide +kernel)
set_option maxRecDepth 20000 in
theorem gL_law_X7_kind : GoodIn wsL_law (wsV RL 109 RX7 yX7_kind wsX7_kind) := goodIn_app (goodIn_of _ (by decide +kernel)) ggL_law_X7_kind
set_option maxRecDepth 20000 in
theorem ggL_law_X8_kind : GoodIn wsL_law wsX8_kind := goodIn_r _ [801, 455, 456, 457, 5, 458, 112, 128, 129, 130, 729, 730, 731, 394, 395, 396, 397, 88, 87, 552, 553, 554, 555, 663, 664, 665, 666, 402, 403, 404, 405, 406, 407, 408, 409, 621, 622, 623, 624, 616, 421, 422, 423, 424, 556, 557, 558, 559, 560, 561, 562, 467, 468, 469, 470, 587, 588, 589, 590, 1094, 1095, 1096, 1097, 1098, 1099, 1100, 1101, 1102, 1103, 1104, 1105, 1106, 1107, 1108, 1109, 1110, 1111, 1112, 1113, 1114, 1115, 1116, 1117, 1118, 1119, 1120, 1121, 1122, 1123] (by decide +kernel) (by decide +kernel)
set_option maxRecDepth 20000 in
theorem gL_law_X8_kind : GoodIn wsL_law (wsV RL 112 RX8 yX8_kind wsX8_kind) := goodIn_app (goodIn_of _ (by decide +kernel)) ggL_law_X8_kind
set_option maxRecDepth 20000 in
theorem ggL_law_X7_late : GoodIn wsL_law wsX7_late := goodIn_r _ [805, 15, 432, 433, 434, 14, 435, 166, 119, 120, 2, 121, 806, 807, 808, 809, 16, 369, 289, 290, 291, 292, 167, 168, 46, 293, 294, 295, 296, 47, 48, 49, 655, 656, 657, 658, 374, 375, 376, 377, 378, 379, 380, 381, 599, 600, 601, 602, 445, 269, 270, 271, 579, 580, 581, 582, 603, 604, 605, 606, 607, 608, 609, 610, 448, 449, 450, 542, 273, 274, 275, 575, 576, 577, 578, 543, 277, 278, 279, 1083, 1084, 1085, 1086, 1087, 1088, 1089, 1090, 1091, 1092, 1093, 1124, 1125, 1126, 1127, 1128, 1129, 1130] (by decide +kernel) (by decide +kernel)
set_option maxRecDepth 20000 in
theorem gL_law_X7_late : GoodIn wsL_law (wsV RL 113 RX7 yX7_late wsX7_late) := goodIn_app (goodIn_of _ (by decide +kernel)) ggL_law_X7_late
set_option maxRecDepth 20000 in
theorem ggL_law_X8_late : GoodIn wsL_law wsX8_late := goodIn_r _ [813, 510, 455, 456, 457, 5, 458, 112, 128, 129, 130, 814, 815, 816, 817, 88, 394, 395, 396, 397, 87, 663, 664, 665, 666, 402, 403, 404, 405, 406, 407, 408, 409, 621, 622, 623, 624, 616, 421, 422, 423, 424, 556, 557, 558, 559, 560, 561, 562, 552, 553, 554, 555, 467, 468, 469, 470, 587, 588, 589, 590, 1094, 1095, 1096, 1097, 1098, 1099, 1100, 1101, 1102, 1103, 1104, 1105, 1106, 1107, 1108, 1109, 1110, 1111, 1112, 1113, 1114, 1115, 1116, 1117, 1118, 1119, 1120, 1121, 1122, 1123] (by decide +kernel) (by decide +kernel)
set_option maxRecDepth 20000 in
theorem gL_law_X8_late : GoodIn wsL_law (wsV RL 116 RX8 yX8_late wsX8_late) := goodIn_app (goodIn_of _ (by decide +kernel)) ggL_law_X8_late
set_option maxRecDepth 20000 in
theorem ggL_law_X7_train : GoodIn wsL_law wsX7_train := goodIn_r _ [821, 16, 15, 367, 119, 120, 2, 121, 289, 290, 291, 14, 292, 166, 167, 168, 46, 293, 294, 295, 296, 47, 48, 49, 595, 596, 597, 598, 599, 600, 601, 602, 445, 269, 270, 271, 579, 580, 581, 582, 603, 604, 605, 606, 607, 608, 609, 610, 448, 449, 450, 378, 379, 380, 381, 542, 273, 274, 275, 575, 576, 577, 578, 543, 277, 278, 279, 436, 1083, 1084, 1085, 1086, 1087, 1088, 1089, 1090, 1091, 1092, 1093, 1124, 1125, 1126, 1127, 1128, 1129, 1130] (by decide +kernel) (by decide +kernel)
set_option maxRecDepth 20000 in
theorem gL_law_X7_train : GoodIn wsL_law (wsV RL 117 RX7 yX7_train wsX7_train) := goodIn_app (goodIn_of _ (by decide +kernel)) ggL_law_X7_train
set_option maxRecDepth 20000 in
theorem ggL_law_X8_train : GoodIn wsL_law wsX8_train := goodIn_r _ [825, 112, 638, 639, 5, 640, 641, 128, 129, 130, 729, 730, 731, 394, 395, 396, 397, 88, 87, 617, 618, 619, 620, 616, 621, 622, 623, 624, 421, 422, 423, 424, 556, 557, 558, 559, 560, 561, 562, 552, 553, 554, 555, 467, 468, 469, 470, 402, 403, 404, 405, 406, 407, 408, 409, 587, 588, 589, 590, 1094, 1095, 1096, 1097, 1098, 1099, 1100, 1101, 1102, 1103, 1104, 1105, 1106, 1107, 1108, 1109, 1110, 1111, 1112, 1113, 1114, 1115, 1116, 1117, 1118, 1119, 1120, 1121, 1122, 1123] (by decide +kernel) (by decide +kernel)
set_option maxRecDepth 20000 in
theorem gL_law_X8_train : GoodIn wsL_law (wsV RL 120 RX8 yX8_train wsX8_train) := goodIn_app (goodIn_of _ (by decide +kernel)) ggL_law_X8_train
set_option maxRecDepth 20000 in
theorem ggL_law_X7_luck : GoodIn wsL_law wsX7_luck := goodIn_r _ [829, 15, 830, 20, 432, 433, 434, 14, 435, 166, 831, 832, 2, 833, 119, 120, 121, 834, 835, 836, 19, 837, 55, 838, 839, 840, 270, 841, 842, 290, 291, 292, 167, 168, 46, 293, 294, 295, 296, 47, 48, 49, 843, 844, 845, 846, 847, 848, 849, 850, 851, 383, 384, 385, 378, 379, 380, 381, 852, 375, 376, 377, 853, 600, 601, 602, 445, 269, 271, 579, 580, 581, 582, 603, 604, 605, 606, 607, 608, 609, 610, 448, 449, 450, 542, 273, 274, 275, 575, 576, 577, 578, 543, 277, 278, 279, 854, 855, 856, 1083, 1084, 1085, 1086, 1087, 1088, 1089, 1090, 1091, 1092, 1093, 1124, 1125, 1126, 1127, 1128, 1129, 1130, 1131] (by decide +kernel) (by decide +kernel)
set_option maxRecDepth 20000 in
theorem gL_law_X7_luck : GoodIn wsL_law (wsV RL 121 RX7 yX7_luck wsX7_luck) := goodIn_app (goodIn_of _ (by decide +kernel)) ggL_law_X7_luck
set_option maxRecDepth 20000 in
theorem ggL_law_X8_luck : GoodIn wsL_law wsX8_luck := goodIn_r _ [860, 726, 861, 862, 863, 864, 128, 129, 5, 130, 455, 456, 457, 458, 112, 729, 730, 731, 865, 866, 867, 868, 869, 88, 87, 394, 395, 396, 397, 621, 622, 623, 624, 616, 421, 422, 423, 424, 556, 557, 558, 559, 560, 561, 562, 552, 553, 554, 555, 467, 468, 469, 470, 402, 403, 404, 405, 406, 407, 408, 409, 587, 588, 589, 590, 413, 414, 415, 416, 870, 871, 872, 873, 874, 875, 1094, 1095, 1096, 1097, 1098, 1099, 1100, 1101, 1102, 1103, 1104, 1105, 1106, 1107, 1108, 1109, 1110, 1111, 1112, 1113, 1114, 1115, 1116, 1117, 1118, 1119, 1120, 1121, 1122, 1123] (by decide +kernel) (by decide +kernel)
set_option maxRecDepth 20000 in
theorem gL_law_X8_luck : GoodIn wsL_law (wsV RL 125 RX8 yX8_luck wsX8_luck) := goodIn_app (goodIn_of _ (by decide +kernel)) ggL_law_X8_luck
set_option maxRecDepth 20000 in
theorem ggL_law_X7_mean : GoodIn wsL_law wsX7_mean := goodIn_r _ [879, 830, 20, 15, 831, 832, 2, 833, 119, 120, 121, 834, 835, 836, 19, 837, 55, 838, 839, 840, 270, 841, 842, 290, 291, 14, 292, 166, 167, 168, 46, 293, 294, 295, 296, 47, 48, 49, 843, 844, 845, 846, 847, 848, 849, 850, 851, 383, 384, 385, 378, 379, 380, 381, 852, 375, 376, 377, 853, 600, 601, 602, 445, 269, 271, 579, 580, 581, 582, 603, 604, 605, 606, 607, 608, 609, 610, 448, 449, 450, 542, 273, 274, 275, 575, 576, 577, 578, 543, 277, 278, 279, 854, 855, 856, 1083, 1084, 1085, 1086, 1087, 1088, 1089, 1090, 1091, 1092, 1093, 1131, 1124, 1125, 1126, 1127, 1128, 1129, 1130] (by decide +kernel) (by decide +kernel)
set_option maxRecDepth 20000 in
theorem gL_law_X7_mean : GoodIn wsL_law (wsV RL 126 RX7 yX7_mean wsX7_mean) := goodIn_app (goodIn_of _ (by decide +kernel)) ggL_law_X7_mean
set_option maxRecDepth 20000 in
theorem ggL_law_X8_mean : GoodIn wsL_law wsX8_mean := goodIn_r _ [883, 726, 861, 862, 869, 864, 128, 129, 5, 130, 729, 730, 731, 865, 866, 867, 868, 863, 88, 87, 394, 395, 396, 397, 621, 622, 623, 624, 112, 616, 421, 422, 423, 424, 556, 557, 558, 559, 560, 561, 562, 552, 553, 554, 555, 467, 468, 469, 470, 402, 403, 404, 405, 406, 407, 408, 409, 587, 588, 589, 590, 413, 414, 415, 416, 870, 871, 872, 873, 874, 875, 1094, 1095, 1096, 1097, 1098, 1099, 1100, 1101, 1102, 1103, 1104, 1105, 1106, 1107, 1108, 1109, 1110, 1111, 1112, 1113, 1114, 1115, 1116, 1117, 1118, 1119, 1120, 1121, 1122, 1123] (by decide +kernel) (by decide +kernel)
set_option maxRecDepth 20000 in
theorem gL_law_X8_mean : GoodIn wsL_law (wsV RL 130 RX8 yX8_mean wsX8_mean) := goodIn_app (goodIn_of _ (by decide +kernel)) ggL_law_X8_mean
set_option maxRecDepth 20000 in
theorem ggL_law_X7_see : GoodIn wsL_law wsX7_see := goodIn_r _ [887, 15, 28, 147, 119, 120, 2, 121, 432, 433, 434, 14, 435, 166, 888, 889, 890, 27, 891, 892, 63, 64, 65, 1083, 1084, 1085, 1086, 1087, 1088, 1089, 1090, 1091, 1092, 1093, 1134, 1135, 1136, 1137, 1124, 1125, 1126, 1127, 1128, 1129, 1130] (by decide +kernel) (by decide +kernel)
set_option maxRecDepth 20000 in
theorem gL_law_X7_see : GoodIn wsL_law (wsV RL 131 RX7 yX7_see wsX7_see) := goodIn_app (goodIn_of _ (by decide +kernel)) ggL_law_X7_see
set_option maxRecDepth 20000 in
theorem ggL_law_X8_see : GoodIn wsL_law wsX8_see := goodIn_r _ [896, 615, 87, 128, 129, 5, 130, 455, 456, 457, 458, 112, 410, 411, 412, 1094, 1095, 1096, 1097, 1098, 1099, 1100, 1101, 1102, 1103, 1104, 1105, 1106, 1107, 1108, 1109, 1110, 1111, 1112, 1113, 1114, 1115, 1116, 1117, 1118, 1119, 1120, 1121, 1122, 1123] (by decide +kernel) (by decide +kernel)
set_option maxRecDepth 20000 in
theorem gL_law_X8_see : GoodIn wsL_law (wsV RL 135 RX8 yX8_see wsX8_see) := goodIn_app (goodIn_of _ (by decide +kernel)) ggL_law_X8_see
set_option maxRecDepth 20000 in
theorem ggL_law_X7_forget : GoodIn wsL_law wsX7_forget := goodIn_r _ [900, 28, 147, 119, 120, 2, 121, 1083, 1084, 1085, 1086, 1087, 1088, 1089, 1090, 1091, 1092, 1093, 1134, 1135, 1136, 1137] (by decide +kernel) (by decide +kernel)
set_option maxRecDepth 20000 in
theorem gL_law_X7_forget : GoodIn wsL_law (wsV RL 136 RX7 yX7_forget wsX7_forget) := goodIn_app (goodIn_of _ (by decide +kernel)) ggL_law_X7_forget
set_option maxRecDepth 20000 in
theorem ggL_law_X8_forget : GoodIn wsL_law wsX8_forget := goodIn_r _ [904, 87, 128, 129, 5, 130, 511, 512, 513, 514, 1094, 1095, 1096, 1097, 1098, 1099, 1100, 1101, 1102, 1103, 1104, 1105, 1106, 1107, 1108, 1109, 1110, 1111, 1112, 1113, 1114, 1115, 1116, 1117, 1118, 1119, 1120, 1121, 1122, 1123] (by decide +kernel) (by decide +kernel)
set_option maxRecDepth 20000 in
theorem gL_law_X8_forget : GoodIn wsL_law (wsV RL 139 RX8 yX8_forget wsX8_forget) := goodIn_app (goodIn_of _ (by decide +kernel)) ggL_law_X8_forget
set_option maxRecDepth 20000 in
theorem ggL_law_X7_kinds : GoodIn wsL_law wsX7_kinds := goodIn_r _ [908, 15, 16, 429, 28, 432, 433, 434, 14, 435, 166, 289, 290, 291, 292, 167, 168, 46, 293, 294, 295, 296, 47, 48, 49, 909, 910, 911, 27, 912, 913, 914, 915, 916, 917, 892, 63, 918, 269, 270, 271, 919, 920, 921, 922, 64, 65, 923, 375, 376, 377, 378, 379, 380, 381, 924, 600, 601, 602, 445, 579, 580, 581, 582, 603, 604, 605, 606, 607, 608, 609, 610, 448, 449, 450, 542, 273, 274, 275, 575, 576, 577, 578, 543, 277, 278, 279, 1083, 1084, 1085, 1086, 1087, 1088, 1089, 1090, 1091, 1092, 1093, 1124, 1125, 1126, 1127, 1128, 1129, 1130, 1134, 1135, 1136, 1137] (by decide +kernel) (by decide +kernel)
set_option maxRecDepth 20000 in
theorem gL_law_X7_kinds : GoodIn wsL_law (wsV RL 140 RX7 yX7_kinds wsX7_kinds) := goodIn_app (goodIn_of _ (by decide +kernel)) ggL_law_X7_kinds
