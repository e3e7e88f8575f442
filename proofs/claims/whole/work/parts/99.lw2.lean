set_option maxRecDepth 100000 in
theorem lwi_wsL_law_r19 : ∀ w ∈ wsL_law_r19, w ∈ lw_tbl := lw_inp wsL_law_r19 [1099, 1100, 1101, 1103, 28, 1104, 1105, 1106, 1107, 537, 538, 539, 540, 541, 542, 543, 544, 545, 546, 547, 548, 1108, 1109, 1110] (by decide +kernel)
set_option maxRecDepth 100000 in
theorem lwi_wsL_law_r20 : ∀ w ∈ wsL_law_r20, w ∈ lw_tbl := lw_inp wsL_law_r20 [1111, 1112, 1114, 29, 1115, 1116, 1118, 30, 1119, 549, 550, 551, 552, 553, 554, 555, 1120, 1121, 1122, 1123, 556, 557, 558, 559] (by decide +kernel)
set_option maxRecDepth 100000 in
theorem lwi_wsL_law_r21 : ∀ w ∈ wsL_law_r21, w ∈ lw_tbl := lw_inp wsL_law_r21 [1124, 1125, 1126, 1127, 1128, 560, 561, 562, 563, 1129, 1130, 1131, 1132, 1133, 564, 565, 566, 567, 568, 569, 570, 571, 572, 573] (by decide +kernel)
set_option maxRecDepth 100000 in
theorem lwi_wsL_law_r22 : ∀ w ∈ wsL_law_r22, w ∈ lw_tbl := lw_inp wsL_law_r22 [1134, 1135, 1136, 1137, 1138, 1140, 31, 1141, 1142, 574, 575, 576, 577, 578, 579, 580, 581, 582, 583, 1143, 1144, 1145, 1146, 1147] (by decide +kernel)
set_option maxRecDepth 100000 in
theorem lwi_wsL_law_r23 : ∀ w ∈ wsL_law_r23, w ∈ lw_tbl := lw_inp wsL_law_r23 [1149, 32, 1150, 1151, 1153, 33, 1154, 584, 585, 586, 587, 588, 589, 590, 591, 1155, 1156, 1157, 1158, 1159, 592, 593, 594, 595] (by decide +kernel)
set_option maxRecDepth 100000 in
theorem lwi_wsL_law_r24 : ∀ w ∈ wsL_law_r24, w ∈ lw_tbl := lw_inp wsL_law_r24 [1160, 1161, 1162, 1163, 596, 597, 598, 599, 230, 600, 602, 13, 603, 604, 605, 606, 607, 214, 232, 608, 609, 610, 611, 612] (by decide +kernel)
set_option maxRecDepth 100000 in
theorem lwi_wsL_law_r25 : ∀ w ∈ wsL_law_r25, w ∈ lw_tbl := lw_inp wsL_law_r25 [108, 125, 613, 614, 615, 616, 213, 617, 618, 619, 620, 621, 622, 623, 624, 625, 626, 115, 129, 627, 628, 629, 630, 631] (by decide +kernel)
set_option maxRecDepth 100000 in
theorem lwi_wsL_law_r26 : ∀ w ∈ wsL_law_r26, w ∈ lw_tbl := lw_inp wsL_law_r26 [632, 633, 634, 635, 636, 67, 637, 1164, 1165, 1166, 1167, 1168, 1170, 34, 1171, 1172, 1174, 35, 1175, 1176, 1178, 36, 1179, 930] (by decide +kernel)
set_option maxRecDepth 100000 in
theorem lwi_wsL_law_r27 : ∀ w ∈ wsL_law_r27, w ∈ lw_tbl := lw_inp wsL_law_r27 [933, 1180, 1182, 37, 1183, 1184, 1186, 38, 1187, 638, 639, 640, 641, 642, 643, 644, 645, 1188, 1189, 1190, 1191, 1192, 1194, 39] (by decide +kernel)
set_option maxRecDepth 100000 in
theorem lwi_wsL_law_r28 : ∀ w ∈ wsL_law_r28, w ∈ lw_tbl := lw_inp wsL_law_r28 [1195, 646, 647, 648, 649, 227, 650, 651, 652, 653, 654, 655, 656, 1196, 1197, 1198, 1199, 1200, 657, 658, 659, 660, 661, 662] (by decide +kernel)
set_option maxRecDepth 100000 in
theorem lwi_wsL_law_r29 : ∀ w ∈ wsL_law_r29, w ∈ lw_tbl := lw_inp wsL_law_r29 [663, 664, 1201, 1202, 1203, 1204, 1205, 665, 666, 667, 668, 669, 670, 671, 672, 673, 674, 675, 135, 677, 678, 679, 676, 1206] (by decide +kernel)
set_option maxRecDepth 100000 in
theorem lwi_wsL_law_r30 : ∀ w ∈ wsL_law_r30, w ∈ lw_tbl := lw_inp wsL_law_r30 [1207, 1208, 1209, 1210, 1212, 40, 1213, 680, 681, 682, 683, 225, 1214, 1215, 1216, 1217, 684, 685, 686, 687, 688, 690, 14, 691] (by decide +kernel)
set_option maxRecDepth 100000 in
theorem lwi_wsL_law_r31 : ∀ w ∈ wsL_law_r31, w ∈ lw_tbl := lw_inp wsL_law_r31 [692, 694, 15, 695, 696, 697, 698, 699, 700, 701, 702, 703, 704, 1218, 1219, 1220, 1221, 1222, 1224, 41, 1225, 705, 706, 707] (by decide +kernel)
set_option maxRecDepth 100000 in
theorem lwi_wsL_law_r32 : ∀ w ∈ wsL_law_r32, w ∈ lw_tbl := lw_inp wsL_law_r32 [708, 279, 709, 710, 711, 712, 106, 274, 713, 714, 715, 716, 717, 718, 719, 720, 721, 722, 723, 724, 725, 216, 726, 727] (by decide +kernel)
set_option maxRecDepth 100000 in
theorem lwi_wsL_law_r33 : ∀ w ∈ wsL_law_r33, w ∈ lw_tbl := lw_inp wsL_law_r33 [728, 729, 1226, 1227, 1228, 1229, 1230, 1231, 1233, 42, 1234, 1239, 1235, 1237, 43, 1238, 1240, 1242, 44, 1243, 1244, 1246, 45, 1247] (by decide +kernel)
set_option maxRecDepth 100000 in
theorem lwi_wsL_law_r34 : ∀ w ∈ wsL_law_r34, w ∈ lw_tbl := lw_inp wsL_law_r34 [1248, 1250, 46, 1251, 730, 731, 732, 733, 734, 735, 736, 737, 1252, 1253, 1254, 1255, 738, 739, 740, 741, 742, 743, 744, 745] (by decide +kernel)
set_option maxRecDepth 100000 in
theorem lwi_wsL_law_r35 : ∀ w ∈ wsL_law_r35, w ∈ lw_tbl := lw_inp wsL_law_r35 [746, 747, 748, 749, 750, 751, 752, 753, 132, 754, 755, 756, 757, 137, 758, 759, 760, 761, 1256, 1257, 1258, 1259, 762, 763] (by decide +kernel)
set_option maxRecDepth 100000 in
theorem lwi_wsL_law_r36 : ∀ w ∈ wsL_law_r36, w ∈ lw_tbl := lw_inp wsL_law_r36 [764, 765, 251, 254, 256, 766, 767, 768, 769, 250, 107, 770, 771, 772, 773, 774, 224, 139, 253, 229, 255, 775, 776, 777] (by decide +kernel)
set_option maxRecDepth 100000 in
theorem lwi_wsL_law_r37 : ∀ w ∈ wsL_law_r37, w ∈ lw_tbl := lw_inp wsL_law_r37 [1260, 1261, 1262, 1263, 778, 779, 780, 781, 782, 783, 784, 785, 791, 252, 786, 787, 788, 789, 790, 792, 793, 794, 795, 796] (by decide +kernel)
