theorem lw_inp {big : List Cond} (ws : List Cond) (ps : List Nat) (hp : ws = ps.filterMap (fun i => big[i]?)) : ∀ w ∈ ws, w ∈ big := by
  subst hp
  intro w h
  obtain ⟨i, _, hi⟩ := List.mem_filterMap.mp h
  exact List.mem_of_getElem? hi
set_option maxRecDepth 100000 in
theorem lwi_wsL_law_r1 : ∀ w ∈ wsL_law_r1, w ∈ lw_tbl := lw_inp wsL_law_r1 [68, 69, 52, 907, 908, 61, 1338, 70, 71, 72, 73, 74, 75, 76, 77, 53, 312, 93, 94, 54, 313, 195, 100, 55] (by decide +kernel)
set_option maxRecDepth 100000 in
theorem lwi_wsL_law_r2 : ∀ w ∈ wsL_law_r2, w ∈ lw_tbl := lw_inp wsL_law_r2 [314, 315, 222, 316, 198, 199, 56, 317, 244, 245, 58, 318, 266, 267, 59, 319, 291, 207, 57, 320, 321, 293, 322, 295] (by decide +kernel)
set_option maxRecDepth 100000 in
theorem lwi_wsL_law_r3 : ∀ w ∈ wsL_law_r3, w ∈ lw_tbl := lw_inp wsL_law_r3 [60, 79, 80, 81, 92, 82, 95, 96, 97, 98, 99, 165, 169, 102, 103, 104, 114, 164, 118, 121, 124, 128, 133, 138] (by decide +kernel)
set_option maxRecDepth 100000 in
theorem lwi_wsL_law_r4 : ∀ w ∈ wsL_law_r4, w ∈ lw_tbl := lw_inp wsL_law_r4 [142, 201, 202, 203, 204, 223, 206, 226, 228, 231, 209, 210, 211, 212, 247, 248, 249, 269, 270, 271, 275, 276, 277, 272] (by decide +kernel)
set_option maxRecDepth 100000 in
theorem lwi_wsL_law_r5 : ∀ w ∈ wsL_law_r5, w ∈ lw_tbl := lw_inp wsL_law_r5 [278, 297, 298, 299, 300, 303, 909, 910, 911, 912, 913, 914, 918, 927, 928, 929, 931, 932, 934, 935, 936, 940, 942, 943] (by decide +kernel)
set_option maxRecDepth 100000 in
theorem lwi_wsL_law_r6 : ∀ w ∈ wsL_law_r6, w ∈ lw_tbl := lw_inp wsL_law_r6 [944, 945, 349, 350, 351, 352, 85, 353, 354, 355, 356, 84, 1016, 1017, 1018, 1019, 919, 357, 358, 359, 360, 1020, 1021, 1022] (by decide +kernel)
set_option maxRecDepth 100000 in
theorem lwi_wsL_law_r7 : ∀ w ∈ wsL_law_r7, w ∈ lw_tbl := lw_inp wsL_law_r7 [1023, 1024, 1025, 1026, 361, 362, 363, 364, 168, 166, 215, 365, 366, 367, 368, 167, 170, 174, 175, 171, 172, 369, 370, 371] (by decide +kernel)
set_option maxRecDepth 100000 in
theorem lwi_wsL_law_r8 : ∀ w ∈ wsL_law_r8, w ∈ lw_tbl := lw_inp wsL_law_r8 [372, 105, 111, 373, 375, 0, 376, 86, 173, 83, 377, 378, 379, 380, 381, 382, 383, 384, 385, 386, 387, 388, 389, 391] (by decide +kernel)
set_option maxRecDepth 100000 in
theorem lwi_wsL_law_r9 : ∀ w ∈ wsL_law_r9, w ∈ lw_tbl := lw_inp wsL_law_r9 [1, 392, 393, 395, 2, 396, 398, 400, 3, 401, 402, 403, 404, 62, 405, 1339, 406, 407, 408, 409, 410, 1340, 412, 413] (by decide +kernel)
set_option maxRecDepth 100000 in
theorem lwi_wsL_law_r10 : ∀ w ∈ wsL_law_r10, w ∈ lw_tbl := lw_inp wsL_law_r10 [414, 415, 416, 417, 418, 419, 420, 421, 63, 422, 423, 424, 425, 426, 428, 429, 64, 430, 431, 432, 65, 433, 434, 435] (by decide +kernel)
set_option maxRecDepth 100000 in
theorem lwi_wsL_law_r11 : ∀ w ∈ wsL_law_r11, w ∈ lw_tbl := lw_inp wsL_law_r11 [436, 437, 438, 439, 440, 441, 442, 443, 444, 446, 448, 450, 452, 4, 453, 112, 454, 456, 5, 457, 458, 460, 6, 461] (by decide +kernel)
set_option maxRecDepth 100000 in
theorem lwi_wsL_law_r12 : ∀ w ∈ wsL_law_r12, w ∈ lw_tbl := lw_inp wsL_law_r12 [463, 465, 7, 466, 116, 468, 470, 8, 471, 109, 126, 130, 134, 140, 472, 474, 9, 475, 119, 122, 476, 478, 10, 479] (by decide +kernel)
set_option maxRecDepth 100000 in
theorem lwi_wsL_law_r13 : ∀ w ∈ wsL_law_r13, w ∈ lw_tbl := lw_inp wsL_law_r13 [486, 488, 11, 489, 490, 491, 492, 493, 494, 495, 496, 497, 498, 500, 12, 501, 502, 503, 504, 505, 506, 507, 508, 509] (by decide +kernel)
set_option maxRecDepth 100000 in
theorem lwi_wsL_law_r14 : ∀ w ∈ wsL_law_r14, w ∈ lw_tbl := lw_inp wsL_law_r14 [510, 511, 512, 513, 514, 515, 517, 516, 66, 1027, 1028, 1029, 1030, 921, 923, 915, 916, 917, 925, 920, 922, 941, 1031, 1033] (by decide +kernel)
set_option maxRecDepth 100000 in
theorem lwi_wsL_law_r15 : ∀ w ∈ wsL_law_r15, w ∈ lw_tbl := lw_inp wsL_law_r15 [16, 1034, 924, 926, 1039, 1040, 1041, 1042, 1035, 1037, 17, 1038, 1043, 1045, 18, 1046, 1047, 1049, 19, 1050, 1055, 1051, 1053, 20] (by decide +kernel)
set_option maxRecDepth 100000 in
theorem lwi_wsL_law_r16 : ∀ w ∈ wsL_law_r16, w ∈ lw_tbl := lw_inp wsL_law_r16 [1054, 1056, 1058, 21, 1059, 1060, 1062, 22, 1063, 1064, 1066, 23, 1067, 1068, 1070, 24, 1071, 1072, 1074, 25, 1075, 518, 519, 520] (by decide +kernel)
set_option maxRecDepth 100000 in
theorem lwi_wsL_law_r17 : ∀ w ∈ wsL_law_r17, w ∈ lw_tbl := lw_inp wsL_law_r17 [521, 1076, 1077, 1078, 1079, 522, 523, 524, 525, 110, 113, 117, 1080, 1081, 1082, 1083, 1084, 1086, 26, 1087, 526, 527, 528, 529] (by decide +kernel)
set_option maxRecDepth 100000 in
theorem lwi_wsL_law_r18 : ∀ w ∈ wsL_law_r18, w ∈ lw_tbl := lw_inp wsL_law_r18 [120, 127, 131, 136, 141, 123, 530, 1088, 1089, 1090, 1091, 1096, 1092, 1094, 27, 1095, 531, 532, 533, 534, 535, 536, 1097, 1098] (by decide +kernel)
