set_option maxRecDepth 20000 in
theorem wi_1 : ∀ w ∈ wsL_law_r1, w ∈ lw_tbl := fun w h => (goodIn_p wsL_law_r1 [70, 73] (by decide +kernel) (by decide +kernel) w h).1
set_option maxRecDepth 20000 in
theorem wi_2 : ∀ w ∈ wsL_law_r2, w ∈ lw_tbl := fun w h => (goodIn_p wsL_law_r2 [78, 82] (by decide +kernel) (by decide +kernel) w h).1
set_option maxRecDepth 20000 in
theorem wi_3 : ∀ w ∈ wsL_law_r3, w ∈ lw_tbl := fun w h => (goodIn_p wsL_law_r3 [139, 171, 659] (by decide +kernel) (by decide +kernel) w h).1
set_option maxRecDepth 20000 in
theorem wi_4 : ∀ w ∈ wsL_law_r4, w ∈ lw_tbl := fun w h => (goodIn_p wsL_law_r4 [663, 215, 218, 221, 225] (by decide +kernel) (by decide +kernel) w h).1
set_option maxRecDepth 20000 in
theorem wi_5 : ∀ w ∈ wsL_law_r5, w ∈ lw_tbl := fun w h => (goodIn_p wsL_law_r5 [725, 729, 733, 738, 743, 230] (by decide +kernel) (by decide +kernel) w h).1
set_option maxRecDepth 20000 in
theorem wi_6 : ∀ w ∈ wsL_law_r6, w ∈ lw_tbl := fun w h => (goodIn_p wsL_law_r6 [747, 752, 756, 759, 234] (by decide +kernel) (by decide +kernel) w h).1
set_option maxRecDepth 20000 in
theorem wi_7 : ∀ w ∈ wsL_law_r7, w ∈ lw_tbl := fun w h => (goodIn_p wsL_law_r7 [237, 241, 763, 766, 772, 245] (by decide +kernel) (by decide +kernel) w h).1
set_option maxRecDepth 20000 in
theorem wi_8 : ∀ w ∈ wsL_law_r8, w ∈ lw_tbl := fun w h => (goodIn_p wsL_law_r8 [249, 253, 776, 780] (by decide +kernel) (by decide +kernel) w h).1
set_option maxRecDepth 20000 in
theorem wi_9 : ∀ w ∈ wsL_law_r9, w ∈ lw_tbl := fun w h => (goodIn_p wsL_law_r9 [785, 257, 261, 789, 792, 265] (by decide +kernel) (by decide +kernel) w h).1
set_option maxRecDepth 20000 in
theorem wi_10 : ∀ w ∈ wsL_law_r10, w ∈ lw_tbl := fun w h => (goodIn_p wsL_law_r10 [799, 269, 272, 803, 806, 278] (by decide +kernel) (by decide +kernel) w h).1
set_option maxRecDepth 20000 in
theorem wi_11 : ∀ w ∈ wsL_law_r11, w ∈ lw_tbl := fun w h => (goodIn_p wsL_law_r11 [282, 286, 290, 811, 815, 819] (by decide +kernel) (by decide +kernel) w h).1
set_option maxRecDepth 20000 in
theorem wi_12 : ∀ w ∈ wsL_law_r12, w ∈ lw_tbl := fun w h => (goodIn_p wsL_law_r12 [823, 294, 298, 827, 302] (by decide +kernel) (by decide +kernel) w h).1
set_option maxRecDepth 20000 in
theorem wi_13 : ∀ w ∈ wsL_law_r13, w ∈ lw_tbl := fun w h => (goodIn_p wsL_law_r13 [306, 832, 836, 310, 314, 318] (by decide +kernel) (by decide +kernel) w h).1
set_option maxRecDepth 20000 in
theorem wi_14 : ∀ w ∈ wsL_law_r14, w ∈ lw_tbl := fun w h => (goodIn_p wsL_law_r14 [322, 326, 840, 844, 848, 852] (by decide +kernel) (by decide +kernel) w h).1
set_option maxRecDepth 20000 in
theorem wi_15 : ∀ w ∈ wsL_law_r15, w ∈ lw_tbl := fun w h => (goodIn_p wsL_law_r15 [856, 860, 332, 337, 341] (by decide +kernel) (by decide +kernel) w h).1
set_option maxRecDepth 20000 in
theorem wi_16 : ∀ w ∈ wsL_law_r16, w ∈ lw_tbl := fun w h => (goodIn_p wsL_law_r16 [345, 351, 864, 870, 874] (by decide +kernel) (by decide +kernel) w h).1
set_option maxRecDepth 20000 in
theorem wi_17 : ∀ w ∈ wsL_law_r17, w ∈ lw_tbl := fun w h => (goodIn_p wsL_law_r17 [878, 882, 357, 362, 366, 370] (by decide +kernel) (by decide +kernel) w h).1
set_option maxRecDepth 20000 in
theorem wi_18 : ∀ w ∈ wsL_law_r18, w ∈ lw_tbl := fun w h => (goodIn_p wsL_law_r18 [886, 890, 894, 898, 374, 378] (by decide +kernel) (by decide +kernel) w h).1
set_option maxRecDepth 20000 in
theorem wi_19 : ∀ w ∈ wsL_law_r19, w ∈ lw_tbl := fun w h => (goodIn_p wsL_law_r19 [902, 906, 910, 385, 914] (by decide +kernel) (by decide +kernel) w h).1
set_option maxRecDepth 20000 in
theorem wi_20 : ∀ w ∈ wsL_law_r20, w ∈ lw_tbl := fun w h => (goodIn_p wsL_law_r20 [918, 389, 922, 394, 927] (by decide +kernel) (by decide +kernel) w h).1
set_option maxRecDepth 20000 in
theorem wi_21 : ∀ w ∈ wsL_law_r21, w ∈ lw_tbl := fun w h => (goodIn_p wsL_law_r21 [398, 402, 405, 931, 934, 939] (by decide +kernel) (by decide +kernel) w h).1
set_option maxRecDepth 20000 in
theorem wi_22 : ∀ w ∈ wsL_law_r22, w ∈ lw_tbl := fun w h => (goodIn_p wsL_law_r22 [409, 943, 946, 413, 417, 951] (by decide +kernel) (by decide +kernel) w h).1
set_option maxRecDepth 20000 in
theorem wi_23 : ∀ w ∈ wsL_law_r23, w ∈ lw_tbl := fun w h => (goodIn_p wsL_law_r23 [955, 959, 421, 963, 425, 967] (by decide +kernel) (by decide +kernel) w h).1
set_option maxRecDepth 20000 in
theorem wi_24 : ∀ w ∈ wsL_law_r24, w ∈ lw_tbl := fun w h => (goodIn_p wsL_law_r24 [429, 971, 433, 437, 975, 442] (by decide +kernel) (by decide +kernel) w h).1
set_option maxRecDepth 20000 in
theorem wi_25 : ∀ w ∈ wsL_law_r25, w ∈ lw_tbl := fun w h => (goodIn_p wsL_law_r25 [446, 979, 450, 984, 454] (by decide +kernel) (by decide +kernel) w h).1
set_option maxRecDepth 20000 in
theorem wi_26 : ∀ w ∈ wsL_law_r26, w ∈ lw_tbl := fun w h => (goodIn_p wsL_law_r26 [458, 462, 469, 466] (by decide +kernel) (by decide +kernel) w h).1
set_option maxRecDepth 20000 in
theorem wi_27 : ∀ w ∈ wsL_law_r27, w ∈ lw_tbl := fun w h => (goodIn_p wsL_law_r27 [473, 477, 480, 490, 494, 498] (by decide +kernel) (by decide +kernel) w h).1
set_option maxRecDepth 20000 in
theorem wi_28 : ∀ w ∈ wsL_law_r28, w ∈ lw_tbl := fun w h => (goodIn_p wsL_law_r28 [504, 508, 511, 514, 519] (by decide +kernel) (by decide +kernel) w h).1
set_option maxRecDepth 20000 in
theorem wi_29 : ∀ w ∈ wsL_law_r29, w ∈ lw_tbl := fun w h => (goodIn_p wsL_law_r29 [522, 525, 528, 532, 543] (by decide +kernel) (by decide +kernel) w h).1
set_option maxRecDepth 20000 in
theorem wi_30 : ∀ w ∈ wsL_law_r30, w ∈ lw_tbl := fun w h => (goodIn_p wsL_law_r30 [549, 553, 561, 568, 988] (by decide +kernel) (by decide +kernel) w h).1
set_option maxRecDepth 20000 in
theorem wi_31 : ∀ w ∈ wsL_law_r31, w ∈ lw_tbl := fun w h => (goodIn_p wsL_law_r31 [992, 996, 1000, 1003, 1008] (by decide +kernel) (by decide +kernel) w h).1
set_option maxRecDepth 20000 in
theorem wi_32 : ∀ w ∈ wsL_law_r32, w ∈ lw_tbl := fun w h => (goodIn_p wsL_law_r32 [1014, 1018, 1022] (by decide +kernel) (by decide +kernel) w h).1
set_option maxRecDepth 20000 in
theorem wi_33 : ∀ w ∈ wsL_law_r33, w ∈ lw_tbl := fun w h => (goodIn_p wsL_law_r33 [1034, 1038, 1043, 1047, 1053] (by decide +kernel) (by decide +kernel) w h).1
set_option maxRecDepth 20000 in
theorem wi_34 : ∀ w ∈ wsL_law_r34, w ∈ lw_tbl := fun w h => (goodIn_p wsL_law_r34 [1058, 1066, 575, 578, 582] (by decide +kernel) (by decide +kernel) w h).1
set_option maxRecDepth 20000 in
theorem wi_35 : ∀ w ∈ wsL_law_r35, w ∈ lw_tbl := fun w h => (goodIn_p wsL_law_r35 [585, 1070, 1073, 589, 593, 597] (by decide +kernel) (by decide +kernel) w h).1
set_option maxRecDepth 20000 in
theorem wi_36 : ∀ w ∈ wsL_law_r36, w ∈ lw_tbl := fun w h => (goodIn_p wsL_law_r36 [1078, 1082, 1086, 601, 605] (by decide +kernel) (by decide +kernel) w h).1
set_option maxRecDepth 20000 in
theorem wi_37 : ∀ w ∈ wsL_law_r37, w ∈ lw_tbl := fun w h => (goodIn_p wsL_law_r37 [1090, 610, 1094, 615, 1098, 1102] (by decide +kernel) (by decide +kernel) w h).1
set_option maxRecDepth 20000 in
theorem wi_38 : ∀ w ∈ wsL_law_r38, w ∈ lw_tbl := fun w h => (goodIn_p wsL_law_r38 [619, 623, 1106, 1110, 627, 1114] (by decide +kernel) (by decide +kernel) w h).1
set_option maxRecDepth 20000 in
theorem wi_39 : ∀ w ∈ wsL_law_r39, w ∈ lw_tbl := fun w h => (goodIn_p wsL_law_r39 [631, 1118, 635, 1122, 639, 642] (by decide +kernel) (by decide +kernel) w h).1
set_option maxRecDepth 20000 in
theorem wi_40 : ∀ w ∈ wsL_law_r40, w ∈ lw_tbl := fun w h => (goodIn_p wsL_law_r40 [649, 1126, 1130, 654, 1134] (by decide +kernel) (by decide +kernel) w h).1
set_option maxRecDepth 20000 in
theorem wi_X3 : ∀ w ∈ wsX30, w ∈ lw_tbl := by decide +kernel
set_option maxRecDepth 20000 in
theorem wi_X4 : ∀ w ∈ wsX40, w ∈ lw_tbl := by decide +kernel
set_option maxRecDepth 20000 in
theorem wi_X0 : ∀ w ∈ wsX00, w ∈ lw_tbl := by decide +kernel
set_option maxRecDepth 20000 in
theorem wi_X2 : ∀ w ∈ wsX20, w ∈ lw_tbl := by decide +kernel
set_option maxRecDepth 20000 in
theorem wi_X1 : ∀ w ∈ wsX10, w ∈ lw_tbl := by decide +kernel
set_option maxRecDepth 20000 in
theorem wi_J0 : ∀ w ∈ wsJ00, w ∈ lw_tbl := by decide +kernel
theorem wi_law : ∀ w ∈ wsL_law, w ∈ lw_tbl := fun w h => (List.mem_append.mp h).elim (fun h => (List.mem_append.mp h).elim (fun h => (List.mem_append.mp h).elim (fun h => (List.mem_append.mp h).elim (fun h => (List.mem_append.mp h).elim (fun h => (List.mem_append.mp h).elim (fun h => (List.mem_append.mp h).elim (fun h => wi_1 w h) (fun h => (List.mem_append.mp h).elim (fun h => wi_2 w h) (fun h => (List.mem_append.mp h).elim (fun h => wi_3 w h) (fun h => (List.mem_append.mp h).elim (fun h => wi_4 w h) (fun h => (List.mem_append.mp h).elim (fun h => wi_5 w h) (fun h => (List.mem_append.mp h).elim (fun h => wi_6 w h) (fun h => (List.mem_append.mp h).elim (fun h => wi_7 w h) (fun h => (List.mem_append.mp h).elim (fun h => wi_8 w h) (fun h => (List.mem_append.mp h).elim (fun h => wi_9 w h) (fun h => (List.mem_append.mp h).elim (fun h => wi_10 w h) (fun h => (List.mem_append.mp h).elim (fun h => wi_11 w h) (fun h => (List.mem_append.mp h).elim (fun h => wi_12 w h) (fun h => (List.mem_append.mp h).elim (fun h => wi_13 w h) (fun h => (List.mem_append.mp h).elim (fun h => wi_14 w h) (fun h => (List.mem_append.mp h).elim (fun h => wi_15 w h) (fun h => (List.mem_append.mp h).elim (fun h => wi_16 w h) (fun h => (List.mem_append.mp h).elim (fun h => wi_17 w h) (fun h => (List.mem_append.mp h).elim (fun h => wi_18 w h) (fun h => (List.mem_append.mp h).elim (fun h => wi_19 w h) (fun h => (List.mem_append.mp h).elim (fun h => wi_20 w h) (fun h => (List.mem_append.mp h).elim (fun h => wi_21 w h) (fun h => (List.mem_append.mp h).elim (fun h => wi_22 w h) (fun h => (List.mem_append.mp h).elim (fun h => wi_23 w h) (fun h => (List.mem_append.mp h).elim (fun h => wi_24 w h) (fun h => (List.mem_append.mp h).elim (fun h => wi_25 w h) (fun h => (List.mem_append.mp h).elim (fun h => wi_26 w h) (fun h => (List.mem_append.mp h).elim (fun h => wi_27 w h) (fun h => (List.mem_append.mp h).elim (fun h => wi_28 w h) (fun h => (List.mem_append.mp h).elim (fun h => wi_29 w h) (fun h => (List.mem_append.mp h).elim (fun h => wi_30 w h) (fun h => (List.mem_append.mp h).elim (fun h => wi_31 w h) (fun h => (List.mem_append.mp h).elim (fun h => wi_32 w h) (fun h => (List.mem_append.mp h).elim (fun h => wi_33 w h) (fun h => (List.mem_append.mp h).elim (fun h => wi_34 w h) (fun h => (List.mem_append.mp h).elim (fun h => wi_35 w h) (fun h => (List.mem_append.mp h).elim (fun h => wi_36 w h) (fun h => (List.mem_append.mp h).elim (fun h => wi_37 w h) (fun h => (List.mem_append.mp h).elim (fun h => wi_38 w h) (fun h => (List.mem_append.mp h).elim (fun h => wi_39 w h) (fun h => wi_40 w h)))))))))))))))))))))))))))))))))))))))) (fun h => wi_X3 w h)) (fun h => wi_X4 w h)) (fun h => wi_X0 w h)) (fun h => wi_X2 w h)) (fun h => wi_X1 w h)) (fun h => absurd h List.not_mem_nil)
theorem WT_in : ∀ w ∈ WT, w ∈ lw_tbl := fun w h => (List.mem_append.mp h).elim (fun h => wi_law w h) (fun h => wi_J0 w h)
