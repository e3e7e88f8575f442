set_option maxRecDepth 100000 in
theorem lwi_wsL_law_r19 : ∀ w ∈ wsL_law_r19, w ∈ lw_tbl := lw_inp wsL_law_r19 [1100, 1101, 1102, 1104, 28, 1105, 1106, 1107, 1108, 538, 539, 540, 541, 542, 543, 544, 545, 546, 547, 548, 549, 1109, 1110, 1111] (by decide +kernel)
set_option maxRecDepth 100000 in
theorem lwi_wsL_law_r20 : ∀ w ∈ wsL_law_r20, w ∈ lw_tbl := lw_inp wsL_law_r20 [1112, 1113, 1115, 29, 1116, 1117, 1119, 30, 1120, 550, 551, 552, 553, 554, 555, 556, 1121, 1122, 1123, 1124, 557, 558, 559, 560] (by decide +kernel)
set_option maxRecDepth 100000 in
theorem lwi_wsL_law_r21 : ∀ w ∈ wsL_law_r21, w ∈ lw_tbl := lw_inp wsL_law_r21 [1125, 1126, 1127, 1128, 1129, 561, 562, 563, 564, 1130, 1131, 1132, 1133, 1134, 565, 566, 567, 568, 569, 570, 571, 572, 573, 574] (by decide +kernel)
set_option maxRecDepth 100000 in
theorem lwi_wsL_law_r22 : ∀ w ∈ wsL_law_r22, w ∈ lw_tbl := lw_inp wsL_law_r22 [1135, 1136, 1137, 1138, 1139, 1141, 31, 1142, 1143, 575, 576, 577, 578, 579, 580, 581, 582, 583, 584, 1144, 1145, 1146, 1147, 1148] (by decide +kernel)
set_option maxRecDepth 100000 in
theorem lwi_wsL_law_r23 : ∀ w ∈ wsL_law_r23, w ∈ lw_tbl := lw_inp wsL_law_r23 [1150, 32, 1151, 1152, 1154, 33, 1155, 585, 586, 587, 588, 589, 590, 591, 592, 1156, 1157, 1158, 1159, 1160, 593, 594, 595, 596] (by decide +kernel)
set_option maxRecDepth 100000 in
theorem lwi_wsL_law_r24 : ∀ w ∈ wsL_law_r24, w ∈ lw_tbl := lw_inp wsL_law_r24 [1161, 1162, 1163, 1164, 597, 598, 599, 600, 231, 601, 603, 13, 604, 605, 606, 607, 608, 215, 233, 609, 610, 611, 612, 613] (by decide +kernel)
set_option maxRecDepth 100000 in
theorem lwi_wsL_law_r25 : ∀ w ∈ wsL_law_r25, w ∈ lw_tbl := lw_inp wsL_law_r25 [108, 125, 614, 615, 616, 617, 214, 618, 619, 620, 621, 622, 623, 624, 625, 626, 627, 115, 129, 628, 629, 630, 631, 632] (by decide +kernel)
set_option maxRecDepth 100000 in
theorem lwi_wsL_law_r26 : ∀ w ∈ wsL_law_r26, w ∈ lw_tbl := lw_inp wsL_law_r26 [633, 634, 635, 636, 637, 67, 638, 1165, 1166, 1167, 1168, 1169, 1171, 34, 1172, 1173, 1175, 35, 1176, 1177, 1179, 36, 1180, 931] (by decide +kernel)
set_option maxRecDepth 100000 in
theorem lwi_wsL_law_r27 : ∀ w ∈ wsL_law_r27, w ∈ lw_tbl := lw_inp wsL_law_r27 [934, 1181, 1183, 37, 1184, 1185, 1187, 38, 1188, 639, 640, 641, 642, 643, 644, 645, 646, 1189, 1190, 1191, 1192, 1193, 1195, 39] (by decide +kernel)
set_option maxRecDepth 100000 in
theorem lwi_wsL_law_r28 : ∀ w ∈ wsL_law_r28, w ∈ lw_tbl := lw_inp wsL_law_r28 [1196, 647, 648, 649, 650, 228, 651, 652, 653, 654, 655, 656, 657, 1197, 1198, 1199, 1200, 1201, 658, 659, 660, 661, 662, 663] (by decide +kernel)
set_option maxRecDepth 100000 in
theorem lwi_wsL_law_r29 : ∀ w ∈ wsL_law_r29, w ∈ lw_tbl := lw_inp wsL_law_r29 [664, 665, 1202, 1203, 1204, 1205, 1206, 666, 667, 668, 669, 670, 671, 672, 673, 674, 675, 676, 135, 678, 679, 680, 677, 1207] (by decide +kernel)
set_option maxRecDepth 100000 in
theorem lwi_wsL_law_r30 : ∀ w ∈ wsL_law_r30, w ∈ lw_tbl := lw_inp wsL_law_r30 [1208, 1209, 1210, 1211, 1213, 40, 1214, 681, 682, 683, 684, 226, 1215, 1216, 1217, 1218, 685, 686, 687, 688, 689, 691, 14, 692] (by decide +kernel)
set_option maxRecDepth 100000 in
theorem lwi_wsL_law_r31 : ∀ w ∈ wsL_law_r31, w ∈ lw_tbl := lw_inp wsL_law_r31 [693, 695, 15, 696, 697, 698, 699, 700, 701, 702, 703, 704, 705, 1219, 1220, 1221, 1222, 1223, 1225, 41, 1226, 706, 707, 708] (by decide +kernel)
set_option maxRecDepth 100000 in
theorem lwi_wsL_law_r32 : ∀ w ∈ wsL_law_r32, w ∈ lw_tbl := lw_inp wsL_law_r32 [709, 280, 710, 711, 712, 713, 106, 275, 714, 715, 716, 717, 718, 719, 720, 721, 722, 723, 724, 725, 726, 217, 727, 728] (by decide +kernel)
set_option maxRecDepth 100000 in
theorem lwi_wsL_law_r33 : ∀ w ∈ wsL_law_r33, w ∈ lw_tbl := lw_inp wsL_law_r33 [729, 730, 1227, 1228, 1229, 1230, 1231, 1232, 1234, 42, 1235, 1240, 1236, 1238, 43, 1239, 1241, 1243, 44, 1244, 1245, 1247, 45, 1248] (by decide +kernel)
set_option maxRecDepth 100000 in
theorem lwi_wsL_law_r34 : ∀ w ∈ wsL_law_r34, w ∈ lw_tbl := lw_inp wsL_law_r34 [1249, 1251, 46, 1252, 731, 732, 733, 734, 735, 736, 737, 738, 1253, 1254, 1255, 1256, 739, 740, 741, 742, 743, 744, 745, 746] (by decide +kernel)
set_option maxRecDepth 100000 in
theorem lwi_wsL_law_r35 : ∀ w ∈ wsL_law_r35, w ∈ lw_tbl := lw_inp wsL_law_r35 [747, 748, 749, 750, 751, 752, 753, 754, 132, 755, 756, 757, 758, 137, 759, 760, 761, 762, 1257, 1258, 1259, 1260, 763, 764] (by decide +kernel)
set_option maxRecDepth 100000 in
theorem lwi_wsL_law_r36 : ∀ w ∈ wsL_law_r36, w ∈ lw_tbl := lw_inp wsL_law_r36 [765, 766, 252, 255, 257, 767, 768, 769, 770, 251, 107, 771, 772, 773, 774, 775, 225, 139, 254, 230, 256, 776, 777, 778] (by decide +kernel)
set_option maxRecDepth 100000 in
theorem lwi_wsL_law_r37 : ∀ w ∈ wsL_law_r37, w ∈ lw_tbl := lw_inp wsL_law_r37 [1261, 1262, 1263, 1264, 779, 780, 781, 782, 783, 784, 785, 786, 792, 253, 787, 788, 789, 790, 791, 793, 794, 795, 796, 797] (by decide +kernel)
