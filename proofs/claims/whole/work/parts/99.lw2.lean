set_option maxRecDepth 20000 in
theorem lwi_wsL_law_r20 : ∀ w ∈ wsL_law_r20, w ∈ lw_tbl := fun w h => (goodIn_p wsL_law_r20 [1111, 1115, 1119, 552, 555, 1123, 559] (by decide +kernel) (by decide +kernel) w h).1
set_option maxRecDepth 20000 in
theorem lwi_wsL_law_r21 : ∀ w ∈ wsL_law_r21, w ∈ lw_tbl := fun w h => (goodIn_p wsL_law_r21 [1127, 563, 1132, 567, 571] (by decide +kernel) (by decide +kernel) w h).1
set_option maxRecDepth 20000 in
theorem lwi_wsL_law_r22 : ∀ w ∈ wsL_law_r22, w ∈ lw_tbl := fun w h => (goodIn_p wsL_law_r22 [1137, 1141, 577, 581, 1146] (by decide +kernel) (by decide +kernel) w h).1
set_option maxRecDepth 20000 in
theorem lwi_wsL_law_r23 : ∀ w ∈ wsL_law_r23, w ∈ lw_tbl := fun w h => (goodIn_p wsL_law_r23 [1150, 1154, 587, 591, 1158, 595] (by decide +kernel) (by decide +kernel) w h).1
set_option maxRecDepth 20000 in
theorem lwi_wsL_law_r24 : ∀ w ∈ wsL_law_r24, w ∈ lw_tbl := fun w h => (goodIn_p wsL_law_r24 [1163, 599, 603, 607, 612] (by decide +kernel) (by decide +kernel) w h).1
set_option maxRecDepth 20000 in
theorem lwi_wsL_law_r25 : ∀ w ∈ wsL_law_r25, w ∈ lw_tbl := fun w h => (goodIn_p wsL_law_r25 [616, 621, 626, 630] (by decide +kernel) (by decide +kernel) w h).1
set_option maxRecDepth 20000 in
theorem lwi_wsL_law_r26 : ∀ w ∈ wsL_law_r26, w ∈ lw_tbl := fun w h => (goodIn_p wsL_law_r26 [634, 637, 1167, 1171, 1175, 1179] (by decide +kernel) (by decide +kernel) w h).1
set_option maxRecDepth 20000 in
theorem lwi_wsL_law_r27 : ∀ w ∈ wsL_law_r27, w ∈ lw_tbl := fun w h => (goodIn_p wsL_law_r27 [1183, 1187, 641, 645, 1191] (by decide +kernel) (by decide +kernel) w h).1
set_option maxRecDepth 20000 in
theorem lwi_wsL_law_r28 : ∀ w ∈ wsL_law_r28, w ∈ lw_tbl := fun w h => (goodIn_p wsL_law_r28 [1195, 649, 652, 656, 1199, 660] (by decide +kernel) (by decide +kernel) w h).1
set_option maxRecDepth 20000 in
theorem lwi_wsL_law_r29 : ∀ w ∈ wsL_law_r29, w ∈ lw_tbl := fun w h => (goodIn_p wsL_law_r29 [664, 1204, 668, 671, 675, 679] (by decide +kernel) (by decide +kernel) w h).1
set_option maxRecDepth 20000 in
theorem lwi_wsL_law_r30 : ∀ w ∈ wsL_law_r30, w ∈ lw_tbl := fun w h => (goodIn_p wsL_law_r30 [1209, 1213, 683, 1217, 687, 691] (by decide +kernel) (by decide +kernel) w h).1
set_option maxRecDepth 20000 in
theorem lwi_wsL_law_r31 : ∀ w ∈ wsL_law_r31, w ∈ lw_tbl := fun w h => (goodIn_p wsL_law_r31 [695, 699, 703, 1221, 1225] (by decide +kernel) (by decide +kernel) w h).1
set_option maxRecDepth 20000 in
theorem lwi_wsL_law_r32 : ∀ w ∈ wsL_law_r32, w ∈ lw_tbl := fun w h => (goodIn_p wsL_law_r32 [708, 712, 717, 721, 725] (by decide +kernel) (by decide +kernel) w h).1
set_option maxRecDepth 20000 in
theorem lwi_wsL_law_r33 : ∀ w ∈ wsL_law_r33, w ∈ lw_tbl := fun w h => (goodIn_p wsL_law_r33 [729, 1229, 1234, 1238, 1243, 1247] (by decide +kernel) (by decide +kernel) w h).1
set_option maxRecDepth 20000 in
theorem lwi_wsL_law_r34 : ∀ w ∈ wsL_law_r34, w ∈ lw_tbl := fun w h => (goodIn_p wsL_law_r34 [1251, 733, 737, 1255, 741, 745] (by decide +kernel) (by decide +kernel) w h).1
set_option maxRecDepth 20000 in
theorem lwi_wsL_law_r35 : ∀ w ∈ wsL_law_r35, w ∈ lw_tbl := fun w h => (goodIn_p wsL_law_r35 [749, 753, 757, 761, 1259] (by decide +kernel) (by decide +kernel) w h).1
set_option maxRecDepth 20000 in
theorem lwi_wsL_law_r36 : ∀ w ∈ wsL_law_r36, w ∈ lw_tbl := fun w h => (goodIn_p wsL_law_r36 [765, 769, 774] (by decide +kernel) (by decide +kernel) w h).1
set_option maxRecDepth 20000 in
theorem lwi_wsL_law_r37 : ∀ w ∈ wsL_law_r37, w ∈ lw_tbl := fun w h => (goodIn_p wsL_law_r37 [1263, 781, 785, 789, 796] (by decide +kernel) (by decide +kernel) w h).1
set_option maxRecDepth 20000 in
theorem lwi_wsL_law_r38 : ∀ w ∈ wsL_law_r38, w ∈ lw_tbl := fun w h => (goodIn_p wsL_law_r38 [800, 1267, 1271, 1275, 804] (by decide +kernel) (by decide +kernel) w h).1
