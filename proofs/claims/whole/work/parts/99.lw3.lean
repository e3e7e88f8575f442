set_option maxRecDepth 100000 in
theorem lwi_wsL_law_r38 : ∀ w ∈ wsL_law_r38, w ∈ lw_tbl := lw_inp wsL_law_r38 [797, 798, 799, 800, 1264, 1265, 1266, 1267, 937, 938, 1268, 1270, 47, 1271, 939, 1272, 1274, 48, 1275, 801, 802, 803, 804, 805] (by decide +kernel)
set_option maxRecDepth 100000 in
theorem lwi_wsL_law_r39 : ∀ w ∈ wsL_law_r39, w ∈ lw_tbl := lw_inp wsL_law_r39 [806, 807, 808, 809, 810, 811, 812, 1276, 1277, 1278, 1279, 813, 814, 815, 816, 817, 1280, 1281, 1282, 1283, 1284, 1286, 49, 1287] (by decide +kernel)
set_option maxRecDepth 100000 in
theorem lwi_wsL_law_r40 : ∀ w ∈ wsL_law_r40, w ∈ lw_tbl := lw_inp wsL_law_r40 [818, 819, 820, 821, 1288, 1289, 1290, 1291, 822, 823, 824, 825, 826, 827, 828, 829, 1292, 1293, 1294, 1295, 1296, 1298, 50, 1299] (by decide +kernel)
set_option maxRecDepth 100000 in
theorem lwi_wsL_law_r41 : ∀ w ∈ wsL_law_r41, w ∈ lw_tbl := lw_inp wsL_law_r41 [830, 831, 832, 833, 834, 835, 836, 837, 1300, 1301, 1302, 1303, 838, 839, 840, 841, 842, 1304, 1305, 1306, 1307, 1308, 843, 844] (by decide +kernel)
set_option maxRecDepth 100000 in
theorem lwi_wsL_law_r42 : ∀ w ∈ wsL_law_r42, w ∈ lw_tbl := lw_inp wsL_law_r42 [845, 846, 1309, 1310, 1311, 1312, 847, 848, 849, 850, 1313, 1314, 1315, 1316, 851, 852, 853, 854, 855, 856, 857, 858, 859, 860] (by decide +kernel)
set_option maxRecDepth 100000 in
theorem lwi_wsL_law_r43 : ∀ w ∈ wsL_law_r43, w ∈ lw_tbl := lw_inp wsL_law_r43 [861, 862, 863, 864, 302, 1317, 1318, 1319, 1320, 865, 866, 867, 868, 869, 870, 871, 872, 873, 874, 875, 876, 877, 878, 879] (by decide +kernel)
set_option maxRecDepth 100000 in
theorem lwi_wsL_law_r44 : ∀ w ∈ wsL_law_r44, w ∈ lw_tbl := lw_inp wsL_law_r44 [880, 1321, 1322, 1323, 1324, 881, 882, 883, 884, 301, 323, 885, 886, 887, 888, 889, 1325, 1326, 1327, 1328, 1329, 946, 890, 891] (by decide +kernel)
set_option maxRecDepth 100000 in
theorem lwi_wsL_law_r45 : ∀ w ∈ wsL_law_r45, w ∈ lw_tbl := lw_inp wsL_law_r45 [892, 893, 1330, 1331, 1332, 1333, 894, 895, 896, 897, 304, 898, 899, 900, 901, 902, 903, 904, 905, 906, 1334, 1335, 1336, 1337] (by decide +kernel)
set_option maxRecDepth 100000 in
theorem lwi_wsX80 : ∀ w ∈ wsX80, w ∈ lw_tbl := lw_inp wsX80 [324, 326, 328, 330, 332, 334, 336, 338, 340, 342, 344, 346] (by decide +kernel)
set_option maxRecDepth 100000 in
theorem lwi_wsX90 : ∀ w ∈ wsX90, w ∈ lw_tbl := lw_inp wsX90 [947, 949, 951, 953, 955, 957, 959, 961, 963, 965, 967, 969, 971, 973, 975, 977, 979, 981, 983, 985, 987, 989, 991, 993, 995, 997, 999, 1001, 1003, 1005, 1007, 1009, 1011, 1013] (by decide +kernel)
set_option maxRecDepth 100000 in
theorem lwi_wsX60 : ∀ w ∈ wsX60, w ∈ lw_tbl := lw_inp wsX60 [87, 89] (by decide +kernel)
set_option maxRecDepth 100000 in
theorem lwi_wsX20 : ∀ w ∈ wsX20, w ∈ lw_tbl := lw_inp wsX20 [176, 178, 180, 182, 184, 186, 188, 190, 192] (by decide +kernel)
set_option maxRecDepth 100000 in
theorem lwi_wsX70 : ∀ w ∈ wsX70, w ∈ lw_tbl := lw_inp wsX70 [143, 145, 147, 149, 151, 153, 155, 157, 159, 161] (by decide +kernel)
set_option maxRecDepth 100000 in
theorem lwi_wsX40 : ∀ w ∈ wsX40, w ∈ lw_tbl := lw_inp wsX40 [233, 235, 237, 239, 241] (by decide +kernel)
set_option maxRecDepth 100000 in
theorem lwi_wsX00 : ∀ w ∈ wsX00, w ∈ lw_tbl := lw_inp wsX00 [257, 259, 261, 263] (by decide +kernel)
set_option maxRecDepth 100000 in
theorem lwi_wsX10 : ∀ w ∈ wsX10, w ∈ lw_tbl := lw_inp wsX10 [280, 282, 284, 286, 288] (by decide +kernel)
set_option maxRecDepth 100000 in
theorem lwi_wsX30 : ∀ w ∈ wsX30, w ∈ lw_tbl := lw_inp wsX30 [217, 219] (by decide +kernel)
set_option maxRecDepth 100000 in
theorem lwi_wsX50 : ∀ w ∈ wsX50, w ∈ lw_tbl := lw_inp wsX50 [305, 307, 309] (by decide +kernel)
theorem wsL_law_in : ∀ w ∈ wsL_law, w ∈ lw_tbl := by
  unfold wsL_law
  exact List.forall_mem_append.mpr ⟨List.forall_mem_append.mpr ⟨List.forall_mem_append.mpr ⟨List.forall_mem_append.mpr ⟨List.forall_mem_append.mpr ⟨List.forall_mem_append.mpr ⟨List.forall_mem_append.mpr ⟨List.forall_mem_append.mpr ⟨List.forall_mem_append.mpr ⟨List.forall_mem_append.mpr ⟨List.forall_mem_append.mpr ⟨List.forall_mem_append.mpr ⟨lwi_wsL_law_r1, List.forall_mem_append.mpr ⟨lwi_wsL_law_r2, List.forall_mem_append.mpr ⟨lwi_wsL_law_r3, List.forall_mem_append.mpr ⟨lwi_wsL_law_r4, List.forall_mem_append.mpr ⟨lwi_wsL_law_r5, List.forall_mem_append.mpr ⟨lwi_wsL_law_r6, List.forall_mem_append.mpr ⟨lwi_wsL_law_r7, List.forall_mem_append.mpr ⟨lwi_wsL_law_r8, List.forall_mem_append.mpr ⟨lwi_wsL_law_r9, List.forall_mem_append.mpr ⟨lwi_wsL_law_r10, List.forall_mem_append.mpr ⟨lwi_wsL_law_r11, List.forall_mem_append.mpr ⟨lwi_wsL_law_r12, List.forall_mem_append.mpr ⟨lwi_wsL_law_r13, List.forall_mem_append.mpr ⟨lwi_wsL_law_r14, List.forall_mem_append.mpr ⟨lwi_wsL_law_r15, List.forall_mem_append.mpr ⟨lwi_wsL_law_r16, List.forall_mem_append.mpr ⟨lwi_wsL_law_r17, List.forall_mem_append.mpr ⟨lwi_wsL_law_r18, List.forall_mem_append.mpr ⟨lwi_wsL_law_r19, List.forall_mem_append.mpr ⟨lwi_wsL_law_r20, List.forall_mem_append.mpr ⟨lwi_wsL_law_r21, List.forall_mem_append.mpr ⟨lwi_wsL_law_r22, List.forall_mem_append.mpr ⟨lwi_wsL_law_r23, List.forall_mem_append.mpr ⟨lwi_wsL_law_r24, List.forall_mem_append.mpr ⟨lwi_wsL_law_r25, List.forall_mem_append.mpr ⟨lwi_wsL_law_r26, List.forall_mem_append.mpr ⟨lwi_wsL_law_r27, List.forall_mem_append.mpr ⟨lwi_wsL_law_r28, List.forall_mem_append.mpr ⟨lwi_wsL_law_r29, List.forall_mem_append.mpr ⟨lwi_wsL_law_r30, List.forall_mem_append.mpr ⟨lwi_wsL_law_r31, List.forall_mem_append.mpr ⟨lwi_wsL_law_r32, List.forall_mem_append.mpr ⟨lwi_wsL_law_r33, List.forall_mem_append.mpr ⟨lwi_wsL_law_r34, List.forall_mem_append.mpr ⟨lwi_wsL_law_r35, List.forall_mem_append.mpr ⟨lwi_wsL_law_r36, List.forall_mem_append.mpr ⟨lwi_wsL_law_r37, List.forall_mem_append.mpr ⟨lwi_wsL_law_r38, List.forall_mem_append.mpr ⟨lwi_wsL_law_r39, List.forall_mem_append.mpr ⟨lwi_wsL_law_r40, List.forall_mem_append.mpr ⟨lwi_wsL_law_r41, List.forall_mem_append.mpr ⟨lwi_wsL_law_r42, List.forall_mem_append.mpr ⟨lwi_wsL_law_r43, List.forall_mem_append.mpr ⟨lwi_wsL_law_r44, lwi_wsL_law_r45⟩⟩⟩⟩⟩⟩⟩⟩⟩⟩⟩⟩⟩⟩⟩⟩⟩⟩⟩⟩⟩⟩⟩⟩⟩⟩⟩⟩⟩⟩⟩⟩⟩⟩⟩⟩⟩⟩⟩⟩⟩⟩⟩⟩, lwi_wsX80⟩, lwi_wsX90⟩, lwi_wsX60⟩, lwi_wsX20⟩, lwi_wsX70⟩, lwi_wsX40⟩, lwi_wsX00⟩, lwi_wsX10⟩, lwi_wsX30⟩, lwi_wsX50⟩, (fun _ h => absurd h List.not_mem_nil)⟩

