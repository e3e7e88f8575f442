theorem lw_inp {big : List Cond} (ws : List Cond) (ps : List Nat) (hp : ws = ps.filterMap (fun i => big[i]?)) : ∀ w ∈ ws, w ∈ big := by
  subst hp
  intro w h
  obtain ⟨i, _, hi⟩ := List.mem_filterMap.mp h
  exact List.mem_of_getElem? hi
set_option maxRecDepth 100000 in
theorem lwi_wsL_law_r1 : ∀ w ∈ wsL_law_r1, w ∈ lw_tbl := lw_inp wsL_law_r1 [68, 69, 52, 908, 909, 61, 1339, 70, 71, 72, 73, 74, 75, 76, 77, 53, 313, 166, 314, 196, 100, 55, 315, 316] (by decide +kernel)
set_option maxRecDepth 100000 in
theorem lwi_wsL_law_r2 : ∀ w ∈ wsL_law_r2, w ∈ lw_tbl := lw_inp wsL_law_r2 [223, 317, 199, 200, 56, 318, 245, 246, 58, 319, 267, 268, 59, 320, 292, 208, 57, 321, 322, 294, 323, 296, 60, 79] (by decide +kernel)
set_option maxRecDepth 100000 in
theorem lwi_wsL_law_r3 : ∀ w ∈ wsL_law_r3, w ∈ lw_tbl := lw_inp wsL_law_r3 [80, 81, 82, 83, 54, 165, 99, 167, 85, 86, 87, 98, 88, 102, 103, 104, 114, 164, 118, 121, 124, 128, 133, 138] (by decide +kernel)
set_option maxRecDepth 100000 in
theorem lwi_wsL_law_r4 : ∀ w ∈ wsL_law_r4, w ∈ lw_tbl := lw_inp wsL_law_r4 [142, 202, 203, 204, 205, 224, 207, 227, 229, 232, 210, 211, 212, 213, 248, 249, 250, 270, 271, 272, 276, 277, 278, 273] (by decide +kernel)
set_option maxRecDepth 100000 in
theorem lwi_wsL_law_r5 : ∀ w ∈ wsL_law_r5, w ∈ lw_tbl := lw_inp wsL_law_r5 [279, 298, 299, 300, 301, 304, 910, 911, 912, 913, 914, 915, 919, 928, 929, 930, 932, 933, 935, 936, 937, 941, 943, 944] (by decide +kernel)
set_option maxRecDepth 100000 in
theorem lwi_wsL_law_r6 : ∀ w ∈ wsL_law_r6, w ∈ lw_tbl := lw_inp wsL_law_r6 [945, 946, 350, 351, 352, 353, 91, 354, 355, 356, 357, 90, 1017, 1018, 1019, 1020, 920, 358, 359, 360, 361, 1021, 1022, 1023] (by decide +kernel)
set_option maxRecDepth 100000 in
theorem lwi_wsL_law_r7 : ∀ w ∈ wsL_law_r7, w ∈ lw_tbl := lw_inp wsL_law_r7 [1024, 1025, 1026, 1027, 362, 363, 364, 365, 170, 168, 216, 366, 367, 368, 369, 169, 171, 175, 176, 172, 173, 370, 371, 372] (by decide +kernel)
set_option maxRecDepth 100000 in
theorem lwi_wsL_law_r8 : ∀ w ∈ wsL_law_r8, w ∈ lw_tbl := lw_inp wsL_law_r8 [373, 105, 111, 374, 376, 0, 377, 92, 174, 89, 378, 379, 380, 381, 382, 383, 384, 385, 386, 387, 388, 389, 390, 392] (by decide +kernel)
set_option maxRecDepth 100000 in
theorem lwi_wsL_law_r9 : ∀ w ∈ wsL_law_r9, w ∈ lw_tbl := lw_inp wsL_law_r9 [1, 393, 394, 396, 2, 397, 399, 401, 3, 402, 403, 404, 405, 62, 406, 1340, 407, 408, 409, 410, 411, 1341, 413, 414] (by decide +kernel)
set_option maxRecDepth 100000 in
theorem lwi_wsL_law_r10 : ∀ w ∈ wsL_law_r10, w ∈ lw_tbl := lw_inp wsL_law_r10 [415, 416, 417, 418, 419, 420, 421, 422, 63, 423, 424, 425, 426, 427, 429, 430, 64, 431, 432, 433, 65, 434, 435, 436] (by decide +kernel)
set_option maxRecDepth 100000 in
theorem lwi_wsL_law_r11 : ∀ w ∈ wsL_law_r11, w ∈ lw_tbl := lw_inp wsL_law_r11 [437, 438, 439, 440, 441, 442, 443, 444, 445, 447, 449, 451, 453, 4, 454, 112, 455, 457, 5, 458, 459, 461, 6, 462] (by decide +kernel)
set_option maxRecDepth 100000 in
theorem lwi_wsL_law_r12 : ∀ w ∈ wsL_law_r12, w ∈ lw_tbl := lw_inp wsL_law_r12 [464, 466, 7, 467, 116, 469, 471, 8, 472, 109, 126, 130, 134, 140, 473, 475, 9, 476, 119, 122, 477, 479, 10, 480] (by decide +kernel)
set_option maxRecDepth 100000 in
theorem lwi_wsL_law_r13 : ∀ w ∈ wsL_law_r13, w ∈ lw_tbl := lw_inp wsL_law_r13 [487, 489, 11, 490, 491, 492, 493, 494, 495, 496, 497, 498, 499, 501, 12, 502, 503, 504, 505, 506, 507, 508, 509, 510] (by decide +kernel)
set_option maxRecDepth 100000 in
theorem lwi_wsL_law_r14 : ∀ w ∈ wsL_law_r14, w ∈ lw_tbl := lw_inp wsL_law_r14 [511, 512, 513, 514, 515, 516, 518, 517, 66, 1028, 1029, 1030, 1031, 922, 924, 916, 917, 918, 926, 921, 923, 942, 1032, 1034] (by decide +kernel)
set_option maxRecDepth 100000 in
theorem lwi_wsL_law_r15 : ∀ w ∈ wsL_law_r15, w ∈ lw_tbl := lw_inp wsL_law_r15 [16, 1035, 925, 927, 1040, 1041, 1042, 1043, 1036, 1038, 17, 1039, 1044, 1046, 18, 1047, 1048, 1050, 19, 1051, 1056, 1052, 1054, 20] (by decide +kernel)
set_option maxRecDepth 100000 in
theorem lwi_wsL_law_r16 : ∀ w ∈ wsL_law_r16, w ∈ lw_tbl := lw_inp wsL_law_r16 [1055, 1057, 1059, 21, 1060, 1061, 1063, 22, 1064, 1065, 1067, 23, 1068, 1069, 1071, 24, 1072, 1073, 1075, 25, 1076, 519, 520, 521] (by decide +kernel)
set_option maxRecDepth 100000 in
theorem lwi_wsL_law_r17 : ∀ w ∈ wsL_law_r17, w ∈ lw_tbl := lw_inp wsL_law_r17 [522, 1077, 1078, 1079, 1080, 523, 524, 525, 526, 110, 113, 117, 1081, 1082, 1083, 1084, 1085, 1087, 26, 1088, 527, 528, 529, 530] (by decide +kernel)
set_option maxRecDepth 100000 in
theorem lwi_wsL_law_r18 : ∀ w ∈ wsL_law_r18, w ∈ lw_tbl := lw_inp wsL_law_r18 [120, 127, 131, 136, 141, 123, 531, 1089, 1090, 1091, 1092, 1097, 1093, 1095, 27, 1096, 532, 533, 534, 535, 536, 537, 1098, 1099] (by decide +kernel)
