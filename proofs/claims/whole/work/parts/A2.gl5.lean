set_option maxRecDepth 20000 in
theorem ggL_law_X8_forget : GoodIn wsL_law wsX8_forget := goodIn_r _ [939, 42, 154, 1080, 1081, 1082, 1083, 1084, 1085, 1086, 1087, 1088, 1089, 1090, 1091, 1159, 1160] (by decide +kernel) (by decide +kernel)
set_option maxRecDepth 20000 in
theorem gL_law_X8_forget : GoodIn wsL_law (wsV RL 136 RX8 yX8_forget wsX8_forget) := goodIn_app (goodIn_of _ (by decide +kernel)) ggL_law_X8_forget
set_option maxRecDepth 20000 in
theorem ggL_law_X9_forget : GoodIn wsL_law wsX9_forget := goodIn_r _ [943, 333, 1092, 1093, 1094, 1095, 1096, 1097, 1098, 1099, 1100, 1101, 1102, 1103, 1104, 1105, 1106, 1107, 1108, 1109, 1110, 1111, 1112, 1113, 1114, 1115, 1116, 1117, 1118, 1119, 1120, 1121, 1122, 1123, 1124, 1125] (by decide +kernel) (by decide +kernel)
set_option maxRecDepth 20000 in
theorem gL_law_X9_forget : GoodIn wsL_law (wsV RL 139 RX9 yX9_forget wsX9_forget) := goodIn_app (goodIn_of _ (by decide +kernel)) ggL_law_X9_forget
set_option maxRecDepth 20000 in
theorem ggL_law_X8_told : GoodIn wsL_law wsX8_told := goodIn_r _ [947, 22, 42, 428, 309, 310, 21, 311, 312, 305, 306, 307, 169, 657, 658, 659, 40, 660, 582, 85, 948, 949, 950, 951, 68, 670, 671, 672, 673, 1080, 1081, 1082, 1083, 1084, 1085, 1086, 1087, 1088, 1089, 1090, 1091, 1135, 1136, 1137, 1138, 1139, 1140, 1141, 1142, 1143, 1144, 1159, 1160] (by decide +kernel) (by decide +kernel)
set_option maxRecDepth 20000 in
theorem gL_law_X8_told : GoodIn wsL_law (wsV RL 140 RX8 yX8_told wsX8_told) := goodIn_app (goodIn_of _ (by decide +kernel)) ggL_law_X8_told
set_option maxRecDepth 20000 in
theorem ggL_law_X9_told : GoodIn wsL_law wsX9_told := goodIn_r _ [955, 117, 434, 435, 436, 5, 437, 420, 421, 422, 423, 400, 401, 402, 403, 106, 145, 146, 147, 932, 933, 934, 935, 333, 956, 957, 958, 959, 1092, 1093, 1094, 1095, 1096, 1097, 1098, 1099, 1100, 1101, 1102, 1103, 1104, 1105, 1106, 1107, 1108, 1109, 1110, 1111, 1112, 1113, 1114, 1115, 1116, 1117, 1118, 1119, 1120, 1121, 1122, 1123, 1124, 1125] (by decide +kernel) (by decide +kernel)
set_option maxRecDepth 20000 in
theorem gL_law_X9_told : GoodIn wsL_law (wsV RL 143 RX9 yX9_told wsX9_told) := goodIn_app (goodIn_of _ (by decide +kernel)) ggL_law_X9_told
set_option maxRecDepth 20000 in
theorem ggL_law_X8_judge : GoodIn wsL_law wsX8_judge := goodIn_r _ [963, 41, 22, 42, 154, 964, 965, 966, 40, 967, 582, 85, 724, 725, 726, 727, 728, 729, 730, 21, 731, 169, 68, 732, 579, 580, 581, 583, 446, 447, 448, 66, 170, 449, 450, 451, 452, 72, 67, 584, 585, 586, 587, 71, 521, 293, 294, 295, 588, 518, 519, 520, 522, 297, 298, 299, 670, 671, 672, 673, 1080, 1081, 1082, 1083, 1084, 1085, 1086, 1087, 1088, 1089, 1090, 1091, 1159, 1160, 1135, 1136, 1137, 1138, 1139, 1140, 1141, 1142, 1143, 1144] (by decide +kernel) (by decide +kernel)
set_option maxRecDepth 20000 in
theorem gL_law_X8_judge : GoodIn wsL_law (wsV RL 144 RX8 yX8_judge wsX8_judge) := goodIn_app (goodIn_of _ (by decide +kernel)) ggL_law_X8_judge
set_option maxRecDepth 20000 in
theorem ggL_law_X9_judge : GoodIn wsL_law wsX9_judge := goodIn_r _ [971, 333, 117, 111, 737, 738, 739, 5, 740, 623, 106, 400, 401, 402, 403, 625, 626, 627, 628, 624, 457, 458, 459, 460, 461, 462, 463, 464, 438, 439, 440, 527, 528, 529, 530, 531, 532, 533, 534, 1092, 1093, 1094, 1095, 1096, 1097, 1098, 1099, 1100, 1101, 1102, 1103, 1104, 1105, 1106, 1107, 1108, 1109, 1110, 1111, 1112, 1113, 1114, 1115, 1116, 1117, 1118, 1119, 1120, 1121, 1122, 1123, 1124, 1125] (by decide +kernel) (by decide +kernel)
set_option maxRecDepth 20000 in
theorem gL_law_X9_judge : GoodIn wsL_law (wsV RL 147 RX9 yX9_judge wsX9_judge) := goodIn_app (goodIn_of _ (by decide +kernel)) ggL_law_X9_judge
set_option maxRecDepth 20000 in
theorem ggL_law_X8_day : GoodIn wsL_law wsX8_day := goodIn_r _ [975, 29, 22, 393, 976, 707, 409, 683, 684, 2, 685, 565, 566, 567, 28, 568, 77, 79, 569, 81, 570, 571, 314, 315, 21, 316, 169, 170, 64, 66, 317, 318, 319, 320, 67, 68, 69, 70, 71, 72, 572, 573, 574, 575, 576, 577, 578, 579, 580, 40, 581, 582, 85, 583, 446, 447, 448, 449, 450, 451, 452, 584, 585, 586, 587, 521, 293, 294, 295, 588, 518, 519, 520, 522, 297, 298, 299, 589, 590, 591, 592, 593, 80, 594, 595, 596, 597, 598, 599, 600, 601, 602, 603, 604, 605, 606, 686, 687, 688, 689, 690, 691, 692, 693, 694, 638, 639, 640, 1080, 1081, 1082, 1083, 1084, 1085, 1086, 1087, 1088, 1089, 1090, 1091, 1135, 1136, 1137, 1138, 1139, 1140, 1141, 1142, 1143, 1144, 1145, 1146, 1147, 1148, 1149, 1159, 1160] (by decide +kernel) (by decide +kernel)
set_option maxRecDepth 20000 in
theorem gL_law_X8_day : GoodIn wsL_law (wsV RL 148 RX8 yX8_day wsX8_day) := goodIn_app (goodIn_of _ (by decide +kernel)) ggL_law_X8_day
set_option maxRecDepth 20000 in
theorem ggL_law_X9_day : GoodIn wsL_law wsX9_day := goodIn_r _ [980, 356, 981, 106, 145, 146, 5, 147, 615, 616, 617, 618, 400, 401, 402, 403, 619, 620, 621, 622, 623, 624, 112, 113, 625, 626, 627, 628, 111, 457, 458, 459, 460, 461, 462, 463, 464, 438, 439, 440, 527, 528, 529, 530, 531, 532, 533, 534, 629, 630, 631, 632, 699, 700, 701, 702, 645, 646, 647, 648, 1092, 1093, 1094, 1095, 1096, 1097, 1098, 1099, 1100, 1101, 1102, 1103, 1104, 1105, 1106, 1107, 1108, 1109, 1110, 1111, 1112, 1113, 1114, 1115, 1116, 1117, 1118, 1119, 1120, 1121, 1122, 1123, 1124, 1125] (by decide +kernel) (by decide +kernel)
set_option maxRecDepth 20000 in
theorem gL_law_X9_day : GoodIn wsL_law (wsV RL 151 RX9 yX9_day wsX9_day) := goodIn_app (goodIn_of _ (by decide +kernel)) ggL_law_X9_day
set_option maxRecDepth 20000 in
theorem ggL_law_X8_keep : GoodIn wsL_law wsX8_keep := goodIn_r _ [985, 25, 23, 22, 313, 314, 315, 21, 316, 169, 170, 64, 66, 317, 318, 319, 320, 67, 68, 69, 70, 71, 72, 1080, 1081, 1082, 1083, 1084, 1085, 1086, 1087, 1088, 1089, 1090, 1091, 1135, 1136, 1137, 1138, 1139, 1140, 1141, 1142, 1143, 1144] (by decide +kernel) (by decide +kernel)
set_option maxRecDepth 20000 in
theorem gL_law_X8_keep : GoodIn wsL_law (wsV RL 152 RX8 yX8_keep wsX8_keep) := goodIn_app (goodIn_of _ (by decide +kernel)) ggL_law_X8_keep
set_option maxRecDepth 20000 in
theorem ggL_law_X9_keep : GoodIn wsL_law wsX9_keep := goodIn_r _ [989, 118, 145, 146, 5, 147, 615, 616, 617, 618, 106, 1092, 1093, 1094, 1095, 1096, 1097, 1098, 1099, 1100, 1101, 1102, 1103, 1104, 1105, 1106, 1107, 1108, 1109, 1110, 1111, 1112, 1113, 1114, 1115, 1116, 1117, 1118, 1119, 1120, 1121, 1122, 1123, 1124, 1125] (by decide +kernel) (by decide +kernel)
set_option maxRecDepth 20000 in
theorem gL_law_X9_keep : GoodIn wsL_law (wsV RL 155 RX9 yX9_keep wsX9_keep) := goodIn_app (goodIn_of _ (by decide +kernel)) ggL_law_X9_keep
set_option maxRecDepth 20000 in
theorem ggL_law_X8_back : GoodIn wsL_law wsX8_back := goodIn_r _ [993, 25, 22, 23, 393, 313, 314, 315, 21, 316, 169, 170, 64, 66, 317, 318, 319, 320, 67, 68, 69, 70, 71, 72, 1080, 1081, 1082, 1083, 1084, 1085, 1086, 1087, 1088, 1089, 1090, 1091, 1135, 1136, 1137, 1138, 1139, 1140, 1141, 1142, 1143, 1144] (by decide +kernel) (by decide +kernel)
set_option maxRecDepth 20000 in
theorem gL_law_X8_back : GoodIn wsL_law (wsV RL 156 RX8 yX8_back wsX8_back) := goodIn_app (goodIn_of _ (by decide +kernel)) ggL_law_X8_back
set_option maxRecDepth 20000 in
theorem ggL_law_X9_back : GoodIn wsL_law wsX9_back := goodIn_r _ [997, 118, 145, 146, 5, 147, 615, 616, 617, 618, 106, 400, 401, 402, 403, 1092, 1093, 1094, 1095, 1096, 1097, 1098, 1099, 1100, 1101, 1102, 1103, 1104, 1105, 1106, 1107, 1108, 1109, 1110, 1111, 1112, 1113, 1114, 1115, 1116, 1117, 1118, 1119, 1120, 1121, 1122, 1123, 1124, 1125] (by decide +kernel) (by decide +kernel)
set_option maxRecDepth 20000 in
theorem gL_law_X9_back : GoodIn wsL_law (wsV RL 159 RX9 yX9_back wsX9_back) := goodIn_app (goodIn_of _ (by decide +kernel)) ggL_law_X9_back
set_option maxRecDepth 20000 in
theorem ggL_law_X8_sheet : GoodIn wsL_law wsX8_sheet := goodIn_r _ [1001, 44, 1002, 1003, 2, 1004, 1005, 1006, 1007, 1008, 1009, 1010, 46, 1011, 1012, 101, 100, 1080, 1081, 1082, 1083, 1084, 1085, 1086, 1087, 1088, 1089, 1090, 1091, 1161, 1162, 1163] (by decide +kernel) (by decide +kernel)
set_option maxRecDepth 20000 in
theorem gL_law_X8_sheet : GoodIn wsL_law (wsV RL 160 RX8 yX8_sheet wsX8_sheet) := goodIn_app (goodIn_of _ (by decide +kernel)) ggL_law_X8_sheet
set_option maxRecDepth 20000 in
theorem ggL_law_X9_sheet : GoodIn wsL_law wsX9_sheet := goodIn_r _ [1016, 356, 484, 119, 120, 121, 145, 146, 5, 147, 1092, 1093, 1094, 1095, 1096, 1097, 1098, 1099, 1100, 1101, 1102, 1103, 1104, 1105, 1106, 1107, 1108, 1109, 1110, 1111, 1112, 1113, 1114, 1115, 1116, 1117, 1118, 1119, 1120, 1121, 1122, 1123, 1124, 1125] (by decide +kernel) (by decide +kernel)
set_option maxRecDepth 20000 in
theorem gL_law_X9_sheet : GoodIn wsL_law (wsV RL 163 RX9 yX9_sheet wsX9_sheet) := goodIn_app (goodIn_of _ (by decide +kernel)) ggL_law_X9_sheet
set_option maxRecDepth 20000 in
theorem ggL_law_X8_lay : GoodIn wsL_law wsX8_lay := goodIn_r _ [1020, 44, 1002, 1003, 2, 1004, 1021, 1022, 1023, 46, 1024, 101, 1025, 1026, 1027, 1028, 1029, 1030, 1031, 1032, 1012, 100, 1080, 1081, 1082, 1083, 1084, 1085, 1086, 1087, 1088, 1089, 1090, 1091, 1161, 1162, 1163] (by decide +kernel) (by decide +kernel)
set_option maxRecDepth 20000 in
theorem gL_law_X8_lay : GoodIn wsL_law (wsV RL 164 RX8 yX8_lay wsX8_lay) := goodIn_app (goodIn_of _ (by decide +kernel)) ggL_law_X8_lay
