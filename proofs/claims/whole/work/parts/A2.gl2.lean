set_option maxRecDepth 20000 in
theorem ggL_law_X9_owes : GoodIn wsL_law wsX9_owes := goodIn_r _ [433, 106, 434, 435, 436, 5, 437, 420, 421, 422, 423, 400, 401, 402, 403, 145, 146, 147, 438, 439, 440, 1092, 1093, 1094, 1095, 1096, 1097, 1098, 1099, 1100, 1101, 1102, 1103, 1104, 1105, 1106, 1107, 1108, 1109, 1110, 1111, 1112, 1113, 1114, 1115, 1116, 1117, 1118, 1119, 1120, 1121, 1122, 1123, 1124, 1125] (by decide +kernel) (by decide +kernel)
set_option maxRecDepth 20000 in
theorem gL_law_X9_owes : GoodIn wsL_law (wsV RL 46 RX9 yX9_owes wsX9_owes) := goodIn_app (goodIn_of _ (by decide +kernel)) ggL_law_X9_owes
set_option maxRecDepth 20000 in
theorem ggL_law_X8_must : GoodIn wsL_law wsX8_must := goodIn_r _ [444, 22, 428, 309, 310, 21, 311, 312, 305, 306, 307, 169, 445, 446, 447, 448, 66, 170, 449, 450, 451, 452, 72, 67, 1080, 1081, 1082, 1083, 1084, 1085, 1086, 1087, 1088, 1089, 1090, 1091, 1135, 1136, 1137, 1138, 1139, 1140, 1141, 1142, 1143, 1144] (by decide +kernel) (by decide +kernel)
set_option maxRecDepth 20000 in
theorem gL_law_X8_must : GoodIn wsL_law (wsV RL 47 RX8 yX8_must wsX8_must) := goodIn_app (goodIn_of _ (by decide +kernel)) ggL_law_X8_must
set_option maxRecDepth 20000 in
theorem ggL_law_X9_must : GoodIn wsL_law wsX9_must := goodIn_r _ [456, 434, 435, 436, 5, 437, 420, 421, 422, 423, 400, 401, 402, 403, 106, 145, 146, 147, 457, 458, 459, 460, 461, 462, 463, 464, 438, 439, 440, 1092, 1093, 1094, 1095, 1096, 1097, 1098, 1099, 1100, 1101, 1102, 1103, 1104, 1105, 1106, 1107, 1108, 1109, 1110, 1111, 1112, 1113, 1114, 1115, 1116, 1117, 1118, 1119, 1120, 1121, 1122, 1123, 1124, 1125] (by decide +kernel) (by decide +kernel)
set_option maxRecDepth 20000 in
theorem gL_law_X9_must : GoodIn wsL_law (wsV RL 50 RX9 yX9_must wsX9_must) := goodIn_app (goodIn_of _ (by decide +kernel)) ggL_law_X9_must
set_option maxRecDepth 20000 in
theorem ggL_law_X8_law : GoodIn wsL_law wsX8_law := goodIn_r _ [468, 22, 394, 469, 470, 2, 471, 1080, 1081, 1082, 1083, 1084, 1085, 1086, 1087, 1088, 1089, 1090, 1091, 1135, 1136, 1137, 1138, 1139, 1140, 1141, 1142, 1143, 1144] (by decide +kernel) (by decide +kernel)
set_option maxRecDepth 20000 in
theorem gL_law_X8_law : GoodIn wsL_law (wsV RL 51 RX8 yX8_law wsX8_law) := goodIn_app (goodIn_of _ (by decide +kernel)) ggL_law_X8_law
set_option maxRecDepth 20000 in
theorem ggL_law_X9_law : GoodIn wsL_law wsX9_law := goodIn_r _ [475, 106, 145, 146, 5, 147, 1092, 1093, 1094, 1095, 1096, 1097, 1098, 1099, 1100, 1101, 1102, 1103, 1104, 1105, 1106, 1107, 1108, 1109, 1110, 1111, 1112, 1113, 1114, 1115, 1116, 1117, 1118, 1119, 1120, 1121, 1122, 1123, 1124, 1125] (by decide +kernel) (by decide +kernel)
set_option maxRecDepth 20000 in
theorem gL_law_X9_law : GoodIn wsL_law (wsV RL 54 RX9 yX9_law wsX9_law) := goodIn_app (goodIn_of _ (by decide +kernel)) ggL_law_X9_law
set_option maxRecDepth 20000 in
theorem ggL_law_X8_counters : GoodIn wsL_law wsX8_counters := goodIn_r _ [479, 22, 395, 1080, 1081, 1082, 1083, 1084, 1085, 1086, 1087, 1088, 1089, 1090, 1091, 1135, 1136, 1137, 1138, 1139, 1140, 1141, 1142, 1143, 1144] (by decide +kernel) (by decide +kernel)
set_option maxRecDepth 20000 in
theorem gL_law_X8_counters : GoodIn wsL_law (wsV RL 55 RX8 yX8_counters wsX8_counters) := goodIn_app (goodIn_of _ (by decide +kernel)) ggL_law_X8_counters
set_option maxRecDepth 20000 in
theorem ggL_law_X9_counters : GoodIn wsL_law wsX9_counters := goodIn_r _ [483, 484, 106, 145, 146, 5, 147, 1092, 1093, 1094, 1095, 1096, 1097, 1098, 1099, 1100, 1101, 1102, 1103, 1104, 1105, 1106, 1107, 1108, 1109, 1110, 1111, 1112, 1113, 1114, 1115, 1116, 1117, 1118, 1119, 1120, 1121, 1122, 1123, 1124, 1125] (by decide +kernel) (by decide +kernel)
set_option maxRecDepth 20000 in
theorem gL_law_X9_counters : GoodIn wsL_law (wsV RL 58 RX9 yX9_counters wsX9_counters) := goodIn_app (goodIn_of _ (by decide +kernel)) ggL_law_X9_counters
set_option maxRecDepth 20000 in
theorem ggL_law_X8_comes : GoodIn wsL_law wsX8_comes := goodIn_r _ [488, 22, 409, 414, 305, 306, 21, 307, 169, 1080, 1081, 1082, 1083, 1084, 1085, 1086, 1087, 1088, 1089, 1090, 1091, 1135, 1136, 1137, 1138, 1139, 1140, 1141, 1142, 1143, 1144] (by decide +kernel) (by decide +kernel)
set_option maxRecDepth 20000 in
theorem gL_law_X8_comes : GoodIn wsL_law (wsV RL 59 RX8 yX8_comes wsX8_comes) := goodIn_app (goodIn_of _ (by decide +kernel)) ggL_law_X8_comes
set_option maxRecDepth 20000 in
theorem ggL_law_X9_comes : GoodIn wsL_law wsX9_comes := goodIn_r _ [492, 493, 106, 420, 421, 422, 5, 423, 400, 401, 402, 403, 145, 146, 147, 1092, 1093, 1094, 1095, 1096, 1097, 1098, 1099, 1100, 1101, 1102, 1103, 1104, 1105, 1106, 1107, 1108, 1109, 1110, 1111, 1112, 1113, 1114, 1115, 1116, 1117, 1118, 1119, 1120, 1121, 1122, 1123, 1124, 1125] (by decide +kernel) (by decide +kernel)
set_option maxRecDepth 20000 in
theorem gL_law_X9_comes : GoodIn wsL_law (wsV RL 62 RX9 yX9_comes wsX9_comes) := goodIn_app (goodIn_of _ (by decide +kernel)) ggL_law_X9_comes
set_option maxRecDepth 20000 in
theorem ggL_law_X8_debt : GoodIn wsL_law wsX8_debt := goodIn_r _ [497, 22, 498, 499, 500, 21, 501, 502, 309, 310, 311, 312, 305, 306, 307, 169, 429, 293, 294, 295, 72, 503, 297, 298, 299, 1080, 1081, 1082, 1083, 1084, 1085, 1086, 1087, 1088, 1089, 1090, 1091, 1135, 1136, 1137, 1138, 1139, 1140, 1141, 1142, 1143, 1144] (by decide +kernel) (by decide +kernel)
set_option maxRecDepth 20000 in
theorem gL_law_X8_debt : GoodIn wsL_law (wsV RL 63 RX8 yX8_debt wsX8_debt) := goodIn_app (goodIn_of _ (by decide +kernel)) ggL_law_X8_debt
set_option maxRecDepth 20000 in
theorem ggL_law_X9_debt : GoodIn wsL_law wsX9_debt := goodIn_r _ [507, 508, 509, 510, 5, 511, 512, 106, 434, 435, 436, 437, 420, 421, 422, 423, 400, 401, 402, 403, 145, 146, 147, 438, 439, 440, 1092, 1093, 1094, 1095, 1096, 1097, 1098, 1099, 1100, 1101, 1102, 1103, 1104, 1105, 1106, 1107, 1108, 1109, 1110, 1111, 1112, 1113, 1114, 1115, 1116, 1117, 1118, 1119, 1120, 1121, 1122, 1123, 1124, 1125] (by decide +kernel) (by decide +kernel)
set_option maxRecDepth 20000 in
theorem gL_law_X9_debt : GoodIn wsL_law (wsV RL 67 RX9 yX9_debt wsX9_debt) := goodIn_app (goodIn_of _ (by decide +kernel)) ggL_law_X9_debt
set_option maxRecDepth 20000 in
theorem ggL_law_X8_pay : GoodIn wsL_law wsX8_pay := goodIn_r _ [516, 22, 412, 428, 309, 310, 21, 311, 312, 305, 306, 307, 169, 429, 293, 294, 295, 72, 517, 518, 519, 520, 71, 521, 522, 297, 298, 299, 1080, 1081, 1082, 1083, 1084, 1085, 1086, 1087, 1088, 1089, 1090, 1091, 1135, 1136, 1137, 1138, 1139, 1140, 1141, 1142, 1143, 1144] (by decide +kernel) (by decide +kernel)
set_option maxRecDepth 20000 in
theorem gL_law_X8_pay : GoodIn wsL_law (wsV RL 68 RX8 yX8_pay wsX8_pay) := goodIn_app (goodIn_of _ (by decide +kernel)) ggL_law_X8_pay
set_option maxRecDepth 20000 in
theorem ggL_law_X9_pay : GoodIn wsL_law wsX9_pay := goodIn_r _ [526, 106, 434, 435, 436, 5, 437, 420, 421, 422, 423, 400, 401, 402, 403, 145, 146, 147, 438, 439, 440, 527, 528, 529, 530, 531, 532, 533, 534, 1092, 1093, 1094, 1095, 1096, 1097, 1098, 1099, 1100, 1101, 1102, 1103, 1104, 1105, 1106, 1107, 1108, 1109, 1110, 1111, 1112, 1113, 1114, 1115, 1116, 1117, 1118, 1119, 1120, 1121, 1122, 1123, 1124, 1125] (by decide +kernel) (by decide +kernel)
set_option maxRecDepth 20000 in
theorem gL_law_X9_pay : GoodIn wsL_law (wsV RL 71 RX9 yX9_pay wsX9_pay) := goodIn_app (goodIn_of _ (by decide +kernel)) ggL_law_X9_pay
set_option maxRecDepth 20000 in
theorem ggL_law_X8_lend : GoodIn wsL_law wsX8_lend := goodIn_r _ [538, 22, 412, 428, 309, 310, 21, 311, 312, 305, 306, 307, 169, 429, 293, 294, 295, 72, 539, 540, 541, 542, 71, 521, 522, 297, 298, 299, 1080, 1081, 1082, 1083, 1084, 1085, 1086, 1087, 1088, 1089, 1090, 1091, 1135, 1136, 1137, 1138, 1139, 1140, 1141, 1142, 1143, 1144] (by decide +kernel) (by decide +kernel)
set_option maxRecDepth 20000 in
theorem gL_law_X8_lend : GoodIn wsL_law (wsV RL 72 RX8 yX8_lend wsX8_lend) := goodIn_app (goodIn_of _ (by decide +kernel)) ggL_law_X8_lend
set_option maxRecDepth 20000 in
theorem ggL_law_X9_lend : GoodIn wsL_law wsX9_lend := goodIn_r _ [546, 547, 106, 434, 435, 436, 5, 437, 420, 421, 422, 423, 400, 401, 402, 403, 145, 146, 147, 438, 439, 440, 531, 532, 533, 534, 1092, 1093, 1094, 1095, 1096, 1097, 1098, 1099, 1100, 1101, 1102, 1103, 1104, 1105, 1106, 1107, 1108, 1109, 1110, 1111, 1112, 1113, 1114, 1115, 1116, 1117, 1118, 1119, 1120, 1121, 1122, 1123, 1124, 1125] (by decide +kernel) (by decide +kernel)
set_option maxRecDepth 20000 in
theorem gL_law_X9_lend : GoodIn wsL_law (wsV RL 75 RX9 yX9_lend wsX9_lend) := goodIn_app (goodIn_of _ (by decide +kernel)) ggL_law_X9_lend
