set_option maxRecDepth 20000 in
theorem wsLg_1 : GoodIn lw_tbl wsL_law_r1 := goodIn_p wsL_law_r1 [118, 121] (by decide +kernel) (by decide +kernel)
set_option maxRecDepth 20000 in
theorem wsLg_2 : GoodIn lw_tbl wsL_law_r2 := goodIn_p wsL_law_r2 [126] (by decide +kernel) (by decide +kernel)
set_option maxRecDepth 20000 in
theorem wsLg_3 : GoodIn lw_tbl wsL_law_r3 := goodIn_p wsL_law_r3 [142, 209, 224, 800] (by decide +kernel) (by decide +kernel)
set_option maxRecDepth 20000 in
theorem wsLg_4 : GoodIn lw_tbl wsL_law_r4 := goodIn_p wsL_law_r4 [260] (by decide +kernel) (by decide +kernel)
set_option maxRecDepth 20000 in
theorem wsLg_5 : GoodIn lw_tbl wsL_law_r5 := goodIn_p wsL_law_r5 [264, 268, 893, 896, 900, 272] (by decide +kernel) (by decide +kernel)
set_option maxRecDepth 20000 in
theorem wsLg_6 : GoodIn lw_tbl wsL_law_r6 := goodIn_p wsL_law_r6 [276, 281, 285, 291, 294, 304] (by decide +kernel) (by decide +kernel)
set_option maxRecDepth 20000 in
theorem wsLg_7 : GoodIn lw_tbl wsL_law_r7 := goodIn_p wsL_law_r7 [307, 311, 315, 318, 321, 326] (by decide +kernel) (by decide +kernel)
set_option maxRecDepth 20000 in
theorem wsLg_8 : GoodIn lw_tbl wsL_law_r8 := goodIn_p wsL_law_r8 [329, 332, 335, 339, 348, 351] (by decide +kernel) (by decide +kernel)
set_option maxRecDepth 20000 in
theorem wsLg_9 : GoodIn lw_tbl wsL_law_r9 := goodIn_p wsL_law_r9 [356, 360, 364, 370, 373, 367, 376] (by decide +kernel) (by decide +kernel)
set_option maxRecDepth 20000 in
theorem wsLg_10 : GoodIn lw_tbl wsL_law_r10 := goodIn_p wsL_law_r10 [379, 385, 388, 391, 394, 397, 400] (by decide +kernel) (by decide +kernel)
set_option maxRecDepth 20000 in
theorem wsLg_11 : GoodIn lw_tbl wsL_law_r11 := goodIn_p wsL_law_r11 [403, 406, 410, 414, 419, 423] (by decide +kernel) (by decide +kernel)
set_option maxRecDepth 20000 in
theorem wsLg_12 : GoodIn lw_tbl wsL_law_r12 := goodIn_p wsL_law_r12 [427, 434, 440, 444, 448, 453] (by decide +kernel) (by decide +kernel)
set_option maxRecDepth 20000 in
theorem wsLg_13 : GoodIn lw_tbl wsL_law_r13 := goodIn_p wsL_law_r13 [458, 461, 464, 469, 472, 476, 480] (by decide +kernel) (by decide +kernel)
set_option maxRecDepth 20000 in
theorem wsLg_14 : GoodIn lw_tbl wsL_law_r14 := goodIn_p wsL_law_r14 [484, 489, 493, 501, 505, 904, 908] (by decide +kernel) (by decide +kernel)
set_option maxRecDepth 20000 in
theorem wsLg_15 : GoodIn lw_tbl wsL_law_r15 := goodIn_p wsL_law_r15 [912, 916, 920, 923, 927, 930] (by decide +kernel) (by decide +kernel)
set_option maxRecDepth 20000 in
theorem wsLg_16 : GoodIn lw_tbl wsL_law_r16 := goodIn_p wsL_law_r16 [934, 937, 941, 945, 949, 953] (by decide +kernel) (by decide +kernel)
set_option maxRecDepth 20000 in
theorem wsLg_17 : GoodIn lw_tbl wsL_law_r17 := goodIn_p wsL_law_r17 [957, 961, 964, 510, 514, 518] (by decide +kernel) (by decide +kernel)
set_option maxRecDepth 20000 in
theorem wsLg_18 : GoodIn lw_tbl wsL_law_r18 := goodIn_p wsL_law_r18 [523, 976, 980, 984, 989, 993] (by decide +kernel) (by decide +kernel)
set_option maxRecDepth 20000 in
theorem wsLg_19 : GoodIn lw_tbl wsL_law_r19 := goodIn_p wsL_law_r19 [997, 1000, 1004, 1008, 527, 531] (by decide +kernel) (by decide +kernel)
set_option maxRecDepth 20000 in
theorem wsLg_20 : GoodIn lw_tbl wsL_law_r20 := goodIn_p wsL_law_r20 [1012, 1016, 536, 1020, 540, 1024] (by decide +kernel) (by decide +kernel)
set_option maxRecDepth 20000 in
theorem wsLg_21 : GoodIn lw_tbl wsL_law_r21 := goodIn_p wsL_law_r21 [544, 1028, 1031, 550, 554, 1035] (by decide +kernel) (by decide +kernel)
set_option maxRecDepth 20000 in
theorem wsLg_22 : GoodIn lw_tbl wsL_law_r22 := goodIn_p wsL_law_r22 [1039, 558, 562, 566, 570, 574, 579] (by decide +kernel) (by decide +kernel)
set_option maxRecDepth 20000 in
theorem wsLg_23 : GoodIn lw_tbl wsL_law_r23 := goodIn_p wsL_law_r23 [583, 588, 1043, 1047, 1051] (by decide +kernel) (by decide +kernel)
set_option maxRecDepth 20000 in
theorem wsLg_24 : GoodIn lw_tbl wsL_law_r24 := goodIn_p wsL_law_r24 [1055, 1059, 1063, 1067, 1071, 1075] (by decide +kernel) (by decide +kernel)
set_option maxRecDepth 20000 in
theorem wsLg_25 : GoodIn lw_tbl wsL_law_r25 := goodIn_p wsL_law_r25 [593, 597, 601, 1079, 1083, 606] (by decide +kernel) (by decide +kernel)
set_option maxRecDepth 20000 in
theorem wsLg_26 : GoodIn lw_tbl wsL_law_r26 := goodIn_p wsL_law_r26 [610, 1087, 1091, 615, 1095, 619] (by decide +kernel) (by decide +kernel)
set_option maxRecDepth 20000 in
theorem wsLg_27 : GoodIn lw_tbl wsL_law_r27 := goodIn_p wsL_law_r27 [1099, 623, 628, 1103, 1107, 1110] (by decide +kernel) (by decide +kernel)
set_option maxRecDepth 20000 in
theorem wsLg_28 : GoodIn lw_tbl wsL_law_r28 := goodIn_p wsL_law_r28 [633, 1114, 637, 641, 645, 1118] (by decide +kernel) (by decide +kernel)
set_option maxRecDepth 20000 in
theorem wsLg_29 : GoodIn lw_tbl wsL_law_r29 := goodIn_p wsL_law_r29 [1122, 1126, 649, 1130, 653, 657] (by decide +kernel) (by decide +kernel)
set_option maxRecDepth 20000 in
theorem wsLg_30 : GoodIn lw_tbl wsL_law_r30 := goodIn_p wsL_law_r30 [661, 1134, 1138, 1142, 665, 671] (by decide +kernel) (by decide +kernel)
set_option maxRecDepth 20000 in
theorem wsLg_31 : GoodIn lw_tbl wsL_law_r31 := goodIn_p wsL_law_r31 [1146, 1150, 675, 679, 683, 689] (by decide +kernel) (by decide +kernel)
set_option maxRecDepth 20000 in
theorem wsLg_32 : GoodIn lw_tbl wsL_law_r32 := goodIn_p wsL_law_r32 [1154, 1158, 1162, 693, 1166, 697] (by decide +kernel) (by decide +kernel)
set_option maxRecDepth 20000 in
theorem wsLg_33 : GoodIn lw_tbl wsL_law_r33 := goodIn_p wsL_law_r33 [701, 706, 709, 1170, 1174, 1179] (by decide +kernel) (by decide +kernel)
set_option maxRecDepth 20000 in
theorem wsLg_34 : GoodIn lw_tbl wsL_law_r34 := goodIn_p wsL_law_r34 [713, 1183, 718, 1187, 723, 727] (by decide +kernel) (by decide +kernel)
set_option maxRecDepth 20000 in
theorem wsLg_35 : GoodIn lw_tbl wsL_law_r35 := goodIn_p wsL_law_r35 [731, 735, 739, 1191, 1195, 1199] (by decide +kernel) (by decide +kernel)
set_option maxRecDepth 20000 in
theorem wsLg_36 : GoodIn lw_tbl wsL_law_r36 := goodIn_p wsL_law_r36 [743, 747, 1203, 751, 755, 759, 1207] (by decide +kernel) (by decide +kernel)
set_option maxRecDepth 20000 in
theorem wsLg_37 : GoodIn lw_tbl wsL_law_r37 := goodIn_p wsL_law_r37 [763, 767, 770, 775, 1211, 1215] (by decide +kernel) (by decide +kernel)
set_option maxRecDepth 20000 in
theorem wsLg_38 : GoodIn lw_tbl wsL_law_r38 := goodIn_p wsL_law_r38 [780, 968, 784, 972, 788] (by decide +kernel) (by decide +kernel)
set_option maxRecDepth 20000 in
theorem wsLg_39 : GoodIn lw_tbl wsL_law_r39 := goodIn_p wsL_law_r39 [794, 1222, 1226] (by decide +kernel) (by decide +kernel)
theorem wsLg_wsX60 : GoodIn lw_tbl wsX60 := goodIn_p wsX60 [] (by decide +kernel) (by decide +kernel)
theorem wsLg_wsX70 : GoodIn lw_tbl wsX70 := goodIn_p wsX70 [] (by decide +kernel) (by decide +kernel)
theorem wsLg_wsX40 : GoodIn lw_tbl wsX40 := goodIn_p wsX40 [] (by decide +kernel) (by decide +kernel)
theorem wsLg_wsX10 : GoodIn lw_tbl wsX10 := goodIn_p wsX10 [] (by decide +kernel) (by decide +kernel)
theorem wsLg_wsX30 : GoodIn lw_tbl wsX30 := goodIn_p wsX30 [] (by decide +kernel) (by decide +kernel)
theorem wsLg_wsX50 : GoodIn lw_tbl wsX50 := goodIn_p wsX50 [] (by decide +kernel) (by decide +kernel)
theorem wsLg : GoodIn lw_tbl wsL_law := goodIn_app (goodIn_app (goodIn_app (goodIn_app (goodIn_app (goodIn_app (goodIn_app (goodIn_app wsLg_1 (goodIn_app wsLg_2 (goodIn_app wsLg_3 (goodIn_app wsLg_4 (goodIn_app wsLg_5 (goodIn_app wsLg_6 (goodIn_app wsLg_7 (goodIn_app wsLg_8 (goodIn_app wsLg_9 (goodIn_app wsLg_10 (goodIn_app wsLg_11 (goodIn_app wsLg_12 (goodIn_app wsLg_13 (goodIn_app wsLg_14 (goodIn_app wsLg_15 (goodIn_app wsLg_16 (goodIn_app wsLg_17 (goodIn_app wsLg_18 (goodIn_app wsLg_19 (goodIn_app wsLg_20 (goodIn_app wsLg_21 (goodIn_app wsLg_22 (goodIn_app wsLg_23 (goodIn_app wsLg_24 (goodIn_app wsLg_25 (goodIn_app wsLg_26 (goodIn_app wsLg_27 (goodIn_app wsLg_28 (goodIn_app wsLg_29 (goodIn_app wsLg_30 (goodIn_app wsLg_31 (goodIn_app wsLg_32 (goodIn_app wsLg_33 (goodIn_app wsLg_34 (goodIn_app wsLg_35 (goodIn_app wsLg_36 (goodIn_app wsLg_37 (goodIn_app wsLg_38 (wsLg_39))))))))))))))))))))))))))))))))))))))) wsLg_wsX60) wsLg_wsX70) wsLg_wsX40) wsLg_wsX10) wsLg_wsX30) wsLg_wsX50) (fun _ h => absurd h List.not_mem_nil)
theorem wsL_law_in : ∀ w ∈ wsL_law, w ∈ lw_tbl := fun w h => (wsLg w h).1
theorem inX0 : ∀ w ∈ wsX00, w ∈ lw_tbl := by decide +kernel
theorem inlX1 : ∀ w ∈ wsX10, w ∈ wsL_law := fun _ h => List.mem_append_left _ (List.mem_append_left _ (List.mem_append_left _ (List.mem_append_right _ h)))
theorem inX1 : ∀ w ∈ wsX10, w ∈ lw_tbl := fun w h => wsL_law_in w (inlX1 w h)
theorem inX2 : ∀ w ∈ wsX20, w ∈ lw_tbl := by decide +kernel
theorem inlX3 : ∀ w ∈ wsX30, w ∈ wsL_law := fun _ h => List.mem_append_left _ (List.mem_append_left _ (List.mem_append_right _ h))
theorem inX3 : ∀ w ∈ wsX30, w ∈ lw_tbl := fun w h => wsL_law_in w (inlX3 w h)
theorem inlX4 : ∀ w ∈ wsX40, w ∈ wsL_law := fun _ h => List.mem_append_left _ (List.mem_append_left _ (List.mem_append_left _ (List.mem_append_left _ (List.mem_append_right _ h))))
theorem inX4 : ∀ w ∈ wsX40, w ∈ lw_tbl := fun w h => wsL_law_in w (inlX4 w h)
theorem inlX5 : ∀ w ∈ wsX50, w ∈ wsL_law := fun _ h => List.mem_append_left _ (List.mem_append_right _ h)
theorem inX5 : ∀ w ∈ wsX50, w ∈ lw_tbl := fun w h => wsL_law_in w (inlX5 w h)
theorem inlX6 : ∀ w ∈ wsX60, w ∈ wsL_law := fun _ h => List.mem_append_left _ (List.mem_append_left _ (List.mem_append_left _ (List.mem_append_left _ (List.mem_append_left _ (List.mem_append_left _ (List.mem_append_right _ h))))))
theorem inX6 : ∀ w ∈ wsX60, w ∈ lw_tbl := fun w h => wsL_law_in w (inlX6 w h)
theorem inlX7 : ∀ w ∈ wsX70, w ∈ wsL_law := fun _ h => List.mem_append_left _ (List.mem_append_left _ (List.mem_append_left _ (List.mem_append_left _ (List.mem_append_left _ (List.mem_append_right _ h)))))
theorem inX7 : ∀ w ∈ wsX70, w ∈ lw_tbl := fun w h => wsL_law_in w (inlX7 w h)
theorem inJ11 : ∀ w ∈ wsJ110, w ∈ lw_tbl := by decide +kernel
theorem inJx8e188 : ∀ w ∈ wsJx8e1880, w ∈ lw_tbl := by decide +kernel
theorem inJ9 : ∀ w ∈ wsJ90, w ∈ lw_tbl := by decide +kernel
theorem inJ0 : ∀ w ∈ wsJ00, w ∈ lw_tbl := by decide +kernel
theorem inJ1 : ∀ w ∈ wsJ10, w ∈ lw_tbl := by decide +kernel
theorem inJ2 : ∀ w ∈ wsJ20, w ∈ lw_tbl := by decide +kernel
theorem inJ10 : ∀ w ∈ wsJ100, w ∈ lw_tbl := by decide +kernel
theorem inJ3 : ∀ w ∈ wsJ30, w ∈ lw_tbl := by decide +kernel
