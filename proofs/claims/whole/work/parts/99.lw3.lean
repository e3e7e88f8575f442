set_option maxRecDepth 100000 in
theorem lwi_wsL_law_r38 : ∀ w ∈ wsL_law_r38, w ∈ lw_tbl := lw_inp wsL_law_r38 [798, 799, 800, 801, 1265, 1266, 1267, 1268, 938, 939, 1269, 1271, 47, 1272, 940, 1273, 1275, 48, 1276, 802, 803, 804, 805, 806] (by decide +kernel)
set_option maxRecDepth 100000 in
theorem lwi_wsL_law_r39 : ∀ w ∈ wsL_law_r39, w ∈ lw_tbl := lw_inp wsL_law_r39 [807, 808, 809, 810, 811, 812, 813, 1277, 1278, 1279, 1280, 814, 815, 816, 817, 818, 1281, 1282, 1283, 1284, 1285, 1287, 49, 1288] (by decide +kernel)
set_option maxRecDepth 100000 in
theorem lwi_wsL_law_r40 : ∀ w ∈ wsL_law_r40, w ∈ lw_tbl := lw_inp wsL_law_r40 [819, 820, 821, 822, 1289, 1290, 1291, 1292, 823, 824, 825, 826, 827, 828, 829, 830, 1293, 1294, 1295, 1296, 1297, 1299, 50, 1300] (by decide +kernel)
set_option maxRecDepth 100000 in
theorem lwi_wsL_law_r41 : ∀ w ∈ wsL_law_r41, w ∈ lw_tbl := lw_inp wsL_law_r41 [831, 832, 833, 834, 835, 836, 837, 838, 1301, 1302, 1303, 1304, 839, 840, 841, 842, 843, 1305, 1306, 1307, 1308, 1309, 844, 845] (by decide +kernel)
set_option maxRecDepth 100000 in
theorem lwi_wsL_law_r42 : ∀ w ∈ wsL_law_r42, w ∈ lw_tbl := lw_inp wsL_law_r42 [846, 847, 1310, 1311, 1312, 1313, 848, 849, 850, 851, 1314, 1315, 1316, 1317, 852, 853, 854, 855, 856, 857, 858, 859, 860, 861] (by decide +kernel)
set_option maxRecDepth 100000 in
theorem lwi_wsL_law_r43 : ∀ w ∈ wsL_law_r43, w ∈ lw_tbl := lw_inp wsL_law_r43 [862, 863, 864, 865, 303, 1318, 1319, 1320, 1321, 866, 867, 868, 869, 870, 871, 872, 873, 874, 875, 876, 877, 878, 879, 880] (by decide +kernel)
set_option maxRecDepth 100000 in
theorem lwi_wsL_law_r44 : ∀ w ∈ wsL_law_r44, w ∈ lw_tbl := lw_inp wsL_law_r44 [881, 1322, 1323, 1324, 1325, 882, 883, 884, 885, 302, 324, 886, 887, 888, 889, 890, 1326, 1327, 1328, 1329, 1330, 947, 891, 892] (by decide +kernel)
set_option maxRecDepth 100000 in
theorem lwi_wsL_law_r45 : ∀ w ∈ wsL_law_r45, w ∈ lw_tbl := lw_inp wsL_law_r45 [893, 894, 1331, 1332, 1333, 1334, 895, 896, 897, 898, 305, 899, 900, 901, 902, 903, 904, 905, 906, 907, 1335, 1336, 1337, 1338] (by decide +kernel)
set_option maxRecDepth 100000 in
theorem lwi_wsX80 : ∀ w ∈ wsX80, w ∈ lw_tbl := lw_inp wsX80 [325, 327, 329, 331, 333, 335, 337, 339, 341, 343, 345, 347] (by decide +kernel)
set_option maxRecDepth 100000 in
theorem lwi_wsX90 : ∀ w ∈ wsX90, w ∈ lw_tbl := lw_inp wsX90 [948, 950, 952, 954, 956, 958, 960, 962, 964, 966, 968, 970, 972, 974, 976, 978, 980, 982, 984, 986, 988, 990, 992, 994, 996, 998, 1000, 1002, 1004, 1006, 1008, 1010, 1012, 1014] (by decide +kernel)
set_option maxRecDepth 100000 in
theorem lwi_wsX20 : ∀ w ∈ wsX20, w ∈ lw_tbl := lw_inp wsX20 [177, 179, 181, 183, 185, 187, 189, 191, 193] (by decide +kernel)
set_option maxRecDepth 100000 in
theorem lwi_wsX70 : ∀ w ∈ wsX70, w ∈ lw_tbl := lw_inp wsX70 [143, 145, 147, 149, 151, 153, 155, 157, 159, 161] (by decide +kernel)
set_option maxRecDepth 100000 in
theorem lwi_wsX40 : ∀ w ∈ wsX40, w ∈ lw_tbl := lw_inp wsX40 [234, 236, 238, 240, 242] (by decide +kernel)
set_option maxRecDepth 100000 in
theorem lwi_wsX00 : ∀ w ∈ wsX00, w ∈ lw_tbl := lw_inp wsX00 [258, 260, 262, 264] (by decide +kernel)
set_option maxRecDepth 100000 in
theorem lwi_wsX10 : ∀ w ∈ wsX10, w ∈ lw_tbl := lw_inp wsX10 [281, 283, 285, 287, 289] (by decide +kernel)
set_option maxRecDepth 100000 in
theorem lwi_wsX30 : ∀ w ∈ wsX30, w ∈ lw_tbl := lw_inp wsX30 [218, 220] (by decide +kernel)
set_option maxRecDepth 100000 in
theorem lwi_wsX50 : ∀ w ∈ wsX50, w ∈ lw_tbl := lw_inp wsX50 [306, 308, 310] (by decide +kernel)
set_option maxRecDepth 100000 in
theorem lwi_wsX60 : ∀ w ∈ wsX60, w ∈ lw_tbl := lw_inp wsX60 [93, 95] (by decide +kernel)
theorem wsL_law_in : ∀ w ∈ wsL_law, w ∈ lw_tbl := by
  unfold wsL_law
  exact List.forall_mem_append.mpr ⟨List.forall_mem_append.mpr ⟨List.forall_mem_append.mpr ⟨List.forall_mem_append.mpr ⟨List.forall_mem_append.mpr ⟨List.forall_mem_append.mpr ⟨List.forall_mem_append.mpr ⟨List.forall_mem_append.mpr ⟨List.forall_mem_append.mpr ⟨List.forall_mem_append.mpr ⟨List.forall_mem_append.mpr ⟨List.forall_mem_append.mpr ⟨lwi_wsL_law_r1, List.forall_mem_append.mpr ⟨lwi_wsL_law_r2, List.forall_mem_append.mpr ⟨lwi_wsL_law_r3, List.forall_mem_append.mpr ⟨lwi_wsL_law_r4, List.forall_mem_append.mpr ⟨lwi_wsL_law_r5, List.forall_mem_append.mpr ⟨lwi_wsL_law_r6, List.forall_mem_append.mpr ⟨lwi_wsL_law_r7, List.forall_mem_append.mpr ⟨lwi_wsL_law_r8, List.forall_mem_append.mpr ⟨lwi_wsL_law_r9, List.forall_mem_append.mpr ⟨lwi_wsL_law_r10, List.forall_mem_append.mpr ⟨lwi_wsL_law_r11, List.forall_mem_append.mpr ⟨lwi_wsL_law_r12, List.forall_mem_append.mpr ⟨lwi_wsL_law_r13, List.forall_mem_append.mpr ⟨lwi_wsL_law_r14, List.forall_mem_append.mpr ⟨lwi_wsL_law_r15, List.forall_mem_append.mpr ⟨lwi_wsL_law_r16, List.forall_mem_append.mpr ⟨lwi_wsL_law_r17, List.forall_mem_append.mpr ⟨lwi_wsL_law_r18, List.forall_mem_append.mpr ⟨lwi_wsL_law_r19, List.forall_mem_append.mpr ⟨lwi_wsL_law_r20, List.forall_mem_append.mpr ⟨lwi_wsL_law_r21, List.forall_mem_append.mpr ⟨lwi_wsL_law_r22, List.forall_mem_append.mpr ⟨lwi_wsL_law_r23, List.forall_mem_append.mpr ⟨lwi_wsL_law_r24, List.forall_mem_append.mpr ⟨lwi_wsL_law_r25, List.forall_mem_append.mpr ⟨lwi_wsL_law_r26, List.forall_mem_append.mpr ⟨lwi_wsL_law_r27, List.forall_mem_append.mpr ⟨lwi_wsL_law_r28, List.forall_mem_append.mpr ⟨lwi_wsL_law_r29, List.forall_mem_append.mpr ⟨lwi_wsL_law_r30, List.forall_mem_append.mpr ⟨lwi_wsL_law_r31, List.forall_mem_append.mpr ⟨lwi_wsL_law_r32, List.forall_mem_append.mpr ⟨lwi_wsL_law_r33, List.forall_mem_append.mpr ⟨lwi_wsL_law_r34, List.forall_mem_append.mpr ⟨lwi_wsL_law_r35, List.forall_mem_append.mpr ⟨lwi_wsL_law_r36, List.forall_mem_append.mpr ⟨lwi_wsL_law_r37, List.forall_mem_append.mpr ⟨lwi_wsL_law_r38, List.forall_mem_append.mpr ⟨lwi_wsL_law_r39, List.forall_mem_append.mpr ⟨lwi_wsL_law_r40, List.forall_mem_append.mpr ⟨lwi_wsL_law_r41, List.forall_mem_append.mpr ⟨lwi_wsL_law_r42, List.forall_mem_append.mpr ⟨lwi_wsL_law_r43, List.forall_mem_append.mpr ⟨lwi_wsL_law_r44, lwi_wsL_law_r45⟩⟩⟩⟩⟩⟩⟩⟩⟩⟩⟩⟩⟩⟩⟩⟩⟩⟩⟩⟩⟩⟩⟩⟩⟩⟩⟩⟩⟩⟩⟩⟩⟩⟩⟩⟩⟩⟩⟩⟩⟩⟩⟩⟩, lwi_wsX80⟩, lwi_wsX90⟩, lwi_wsX20⟩, lwi_wsX70⟩, lwi_wsX40⟩, lwi_wsX00⟩, lwi_wsX10⟩, lwi_wsX30⟩, lwi_wsX50⟩, lwi_wsX60⟩, (fun _ h => absurd h List.not_mem_nil)⟩

