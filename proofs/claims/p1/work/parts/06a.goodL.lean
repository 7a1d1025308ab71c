theorem mem_places {big : List Cond} (ws : List Cond) (ps : List Nat) (h : ws = ps.filterMap (fun i => big[i]?)) : ∀ w ∈ ws, w ∈ big := by
  intro w hw
  rw [h] at hw
  obtain ⟨i, -, hi⟩ := List.mem_filterMap.mp hw
  first | exact List.mem_of_getElem? hi | exact List.getElem?_mem hi
set_option maxRecDepth 20000 in
theorem ml_r1 : ∀ w ∈ wsL_law0_r1, w ∈ lw_tbl := mem_places _ [80, 81, 58, 843, 844, 66, 302, 82, 83, 84, 85, 86, 87, 88, 89, 59, 343, 186, 95, 60, 344, 188, 189, 61] (by decide +kernel)
set_option maxRecDepth 20000 in
theorem ml_r2 : ∀ w ∈ wsL_law0_r2, w ∈ lw_tbl := mem_places _ [345, 209, 210, 62, 346, 246, 247, 63, 347, 274, 275, 64, 348, 303, 304, 65, 349, 350, 91, 92, 93, 94, 147, 149] (by decide +kernel)
set_option maxRecDepth 20000 in
theorem ml_r3 : ∀ w ∈ wsL_law0_r3, w ∈ lw_tbl := mem_places _ [151, 185, 155, 96, 97, 98, 99, 146, 104, 100, 101, 102, 103, 106, 108, 109, 112, 115, 118, 121, 124, 187, 191, 192] (by decide +kernel)
set_option maxRecDepth 20000 in
theorem ml_r4 : ∀ w ∈ wsL_law0_r4, w ∈ lw_tbl := mem_places _ [193, 194, 195, 212, 213, 214, 215, 217, 219, 222, 223, 226, 249, 250, 251, 252, 254, 273, 256, 258, 277, 278, 279, 280] (by decide +kernel)
set_option maxRecDepth 20000 in
theorem ml_r5 : ∀ w ∈ wsL_law0_r5, w ∈ lw_tbl := mem_places _ [282, 286, 287, 306, 307, 308, 309, 311, 313, 321, 322, 323, 845, 846, 847, 848, 850, 853, 854, 855, 856, 857, 858, 859] (by decide +kernel)
set_option maxRecDepth 20000 in
theorem ml_r6 : ∀ w ∈ wsL_law0_r6, w ∈ lw_tbl := mem_places _ [860, 863, 865, 866, 869, 870, 871, 872, 873, 875, 876, 877, 878, 881, 882, 883, 884, 891, 892, 895, 849, 897, 898, 899] (by decide +kernel)
set_option maxRecDepth 20000 in
theorem ml_r7 : ∀ w ∈ wsL_law0_r7, w ∈ lw_tbl := mem_places _ [900, 901, 368, 369, 370, 371, 153, 372, 373, 374, 375, 154, 1011, 1012, 1013, 1014, 852, 851, 376, 377, 378, 379, 148, 380] (by decide +kernel)
set_option maxRecDepth 20000 in
theorem ml_r8 : ∀ w ∈ wsL_law0_r8, w ∈ lw_tbl := mem_places _ [381, 382, 383, 384, 385, 67, 386, 156, 159, 161, 157, 387, 388, 390, 0, 391, 158, 392, 394, 1, 395, 396, 397, 398] (by decide +kernel)
set_option maxRecDepth 20000 in
theorem ml_r9 : ∀ w ∈ wsL_law0_r9, w ∈ lw_tbl := mem_places _ [399, 400, 401, 402, 403, 404, 405, 407, 2, 408, 160, 409, 410, 412, 3, 413, 414, 416, 4, 417, 419, 421, 5, 422] (by decide +kernel)
set_option maxRecDepth 20000 in
theorem ml_r10 : ∀ w ∈ wsL_law0_r10, w ∈ lw_tbl := mem_places _ [423, 424, 425, 68, 426, 1190, 427, 428, 429, 430, 431, 1191, 433, 434, 435, 436, 437, 438, 439, 440, 441, 442, 69, 443] (by decide +kernel)
set_option maxRecDepth 20000 in
theorem ml_r11 : ∀ w ∈ wsL_law0_r11, w ∈ lw_tbl := mem_places _ [444, 445, 446, 447, 449, 450, 70, 451, 452, 453, 71, 454, 455, 456, 457, 458, 459, 460, 461, 462, 463, 464, 465, 467] (by decide +kernel)
set_option maxRecDepth 20000 in
theorem ml_r12 : ∀ w ∈ wsL_law0_r12, w ∈ lw_tbl := mem_places _ [469, 476, 478, 6, 479, 480, 482, 7, 483, 110, 119, 122, 125, 484, 486, 8, 487, 107, 105, 488, 490, 9, 491, 494] (by decide +kernel)
set_option maxRecDepth 20000 in
theorem ml_r13 : ∀ w ∈ wsL_law0_r13, w ∈ lw_tbl := mem_places _ [496, 10, 497, 498, 500, 11, 501, 113, 116, 502, 504, 12, 505, 506, 507, 508, 509, 510, 512, 511, 72, 1015, 1016, 1017] (by decide +kernel)
set_option maxRecDepth 20000 in
theorem ml_r14 : ∀ w ∈ wsL_law0_r14, w ∈ lw_tbl := mem_places _ [1018, 885, 862, 894, 893, 886, 887, 889, 861, 1019, 1021, 33, 1022, 888, 1035, 1023, 1025, 34, 1026, 1027, 1029, 35, 1030, 1031] (by decide +kernel)
set_option maxRecDepth 20000 in
theorem ml_r15 : ∀ w ∈ wsL_law0_r15, w ∈ lw_tbl := mem_places _ [1033, 36, 1034, 1036, 1038, 37, 1039, 890, 1040, 1042, 38, 1043, 1044, 1046, 39, 1047, 1048, 1050, 40, 1051, 513, 514, 515, 516] (by decide +kernel)
set_option maxRecDepth 20000 in
theorem ml_r16 : ∀ w ∈ wsL_law0_r16, w ∈ lw_tbl := mem_places _ [150, 152, 1052, 1053, 1054, 1055, 517, 518, 519, 520, 521, 522, 523, 524, 197, 1056, 1057, 1058, 1059, 864, 525, 526, 527, 528] (by decide +kernel)
set_option maxRecDepth 20000 in
theorem ml_r17 : ∀ w ∈ wsL_law0_r17, w ∈ lw_tbl := mem_places _ [529, 530, 531, 532, 533, 534, 535, 536, 538, 537, 1060, 1061, 1062, 1063, 539, 540, 541, 542, 196, 543, 544, 545, 546, 228] (by decide +kernel)
set_option maxRecDepth 20000 in
theorem ml_r18 : ∀ w ∈ wsL_law0_r18, w ∈ lw_tbl := mem_places _ [1064, 1065, 1066, 1067, 1068, 1070, 41, 1071, 868, 547, 548, 549, 550, 551, 552, 553, 554, 555, 556, 557, 1072, 1073, 1074, 1075] (by decide +kernel)
set_option maxRecDepth 20000 in
theorem ml_r19 : ∀ w ∈ wsL_law0_r19, w ∈ lw_tbl := mem_places _ [558, 559, 560, 561, 126, 225, 562, 563, 564, 565, 566, 567, 568, 569, 570, 572, 13, 573, 574, 576, 14, 577, 199, 198] (by decide +kernel)
set_option maxRecDepth 20000 in
theorem ml_r20 : ∀ w ∈ wsL_law0_r20, w ∈ lw_tbl := mem_places _ [578, 579, 580, 581, 582, 584, 15, 585, 216, 114, 117, 586, 588, 16, 589, 230, 111, 218, 590, 591, 592, 593, 594, 596] (by decide +kernel)
set_option maxRecDepth 20000 in
theorem ml_r21 : ∀ w ∈ wsL_law0_r21, w ∈ lw_tbl := mem_places _ [17, 597, 598, 599, 600, 601, 1076, 1077, 1078, 1079, 1080, 1082, 42, 1083, 1084, 1086, 43, 1087, 867, 1088, 1090, 44, 1091, 1092] (by decide +kernel)
set_option maxRecDepth 20000 in
theorem ml_r22 : ∀ w ∈ wsL_law0_r22, w ∈ lw_tbl := mem_places _ [1094, 45, 1095, 1096, 1098, 46, 1099, 602, 603, 604, 605, 227, 261, 120, 606, 607, 608, 609, 611, 610, 612, 614, 18, 615] (by decide +kernel)
set_option maxRecDepth 20000 in
theorem ml_r23 : ∀ w ∈ wsL_law0_r23, w ∈ lw_tbl := mem_places _ [259, 616, 617, 618, 619, 260, 620, 621, 622, 623, 624, 1100, 1101, 1102, 1103, 879, 874, 625, 626, 627, 628, 123, 285, 281] (by decide +kernel)
set_option maxRecDepth 20000 in
theorem ml_r24 : ∀ w ∈ wsL_law0_r24, w ∈ lw_tbl := mem_places _ [283, 221, 629, 630, 631, 632, 633, 635, 19, 636, 284, 229, 224, 220, 637, 639, 20, 640, 641, 642, 643, 644, 645, 647] (by decide +kernel)
set_option maxRecDepth 20000 in
theorem ml_r25 : ∀ w ∈ wsL_law0_r25, w ∈ lw_tbl := mem_places _ [21, 648, 288, 649, 651, 22, 652, 653, 655, 23, 656, 657, 658, 73, 659, 660, 661, 662, 663, 664, 74, 665, 666, 667] (by decide +kernel)
set_option maxRecDepth 20000 in
theorem ml_r26 : ∀ w ∈ wsL_law0_r26, w ∈ lw_tbl := mem_places _ [668, 669, 671, 24, 672, 677, 673, 675, 25, 676, 678, 679, 680, 681, 682, 683, 684, 685, 686, 687, 688, 689, 691, 26] (by decide +kernel)
set_option maxRecDepth 20000 in
theorem ml_r27 : ∀ w ∈ wsL_law0_r27, w ∈ lw_tbl := mem_places _ [692, 1104, 1105, 1106, 1107, 896, 1108, 1110, 47, 1111, 1112, 1114, 48, 1115, 1116, 1118, 49, 1119, 1120, 1122, 50, 1123, 693, 694] (by decide +kernel)
set_option maxRecDepth 20000 in
theorem ml_r28 : ∀ w ∈ wsL_law0_r28, w ∈ lw_tbl := mem_places _ [695, 696, 697, 698, 699, 700, 315, 1124, 1125, 1126, 1127, 880, 701, 702, 703, 704, 310, 1128, 1129, 1130, 1131, 705, 706, 707] (by decide +kernel)
set_option maxRecDepth 20000 in
theorem ml_r29 : ∀ w ∈ wsL_law0_r29, w ∈ lw_tbl := mem_places _ [708, 312, 316, 314, 318, 320, 709, 710, 711, 712, 713, 715, 27, 716, 317, 319, 717, 719, 28, 720, 721, 723, 29, 724] (by decide +kernel)
set_option maxRecDepth 20000 in
theorem ml_r30 : ∀ w ∈ wsL_law0_r30, w ∈ lw_tbl := mem_places _ [725, 727, 30, 728, 729, 731, 31, 732, 733, 734, 735, 1132, 1133, 1134, 1135, 1136, 1138, 51, 1139, 1140, 1142, 52, 1143, 1144] (by decide +kernel)
set_option maxRecDepth 20000 in
theorem ml_r31 : ∀ w ∈ wsL_law0_r31, w ∈ lw_tbl := mem_places _ [1146, 53, 1147, 1148, 1150, 54, 1151, 736, 737, 738, 739, 740, 741, 742, 743, 1152, 1153, 1154, 1155, 752, 753, 57, 754, 755] (by decide +kernel)
set_option maxRecDepth 20000 in
theorem ml_r32 : ∀ w ∈ wsL_law0_r32, w ∈ lw_tbl := mem_places _ [756, 757, 758, 759, 760, 761, 78, 827, 79, 1156, 1157, 1158, 1159, 1160, 1162, 55, 1163, 1164, 1166, 56, 1167, 1007, 1008, 1009] (by decide +kernel)
set_option maxRecDepth 20000 in
theorem ml_r33 : ∀ w ∈ wsL_law0_r33, w ∈ lw_tbl := mem_places _ [1010, 744, 745, 746, 747, 253, 255, 257, 1168, 1169, 1170, 1171, 748, 749, 750, 751, 1172, 1173, 1174, 1175] (by decide +kernel)
set_option maxRecDepth 20000 in
theorem ml_wsX00 : ∀ w ∈ wsX00, w ∈ lw_tbl := mem_places _ [324, 326, 328, 330, 332, 334, 336, 338, 340] (by decide +kernel)
set_option maxRecDepth 20000 in
theorem ml_wsX10 : ∀ w ∈ wsX10, w ∈ lw_tbl := mem_places _ [231, 233, 235, 237, 239, 241, 243] (by decide +kernel)
set_option maxRecDepth 20000 in
theorem ml_wsX20 : ∀ w ∈ wsX20, w ∈ lw_tbl := mem_places _ [289, 291, 293, 295, 297, 299] (by decide +kernel)
set_option maxRecDepth 20000 in
theorem ml_wsX30 : ∀ w ∈ wsX30, w ∈ lw_tbl := mem_places _ [200, 202, 204, 206] (by decide +kernel)
set_option maxRecDepth 20000 in
theorem ml_wsX40 : ∀ w ∈ wsX40, w ∈ lw_tbl := mem_places _ [162, 164, 166, 168, 170, 172, 174, 176, 178, 180, 182] (by decide +kernel)
set_option maxRecDepth 20000 in
theorem ml_wsX50 : ∀ w ∈ wsX50, w ∈ lw_tbl := mem_places _ [127, 129, 131, 133, 135, 137, 139, 141, 143] (by decide +kernel)
set_option maxRecDepth 20000 in
theorem ml_wsX60 : ∀ w ∈ wsX60, w ∈ lw_tbl := mem_places _ [262, 264, 266, 268, 270] (by decide +kernel)
set_option maxRecDepth 20000 in
theorem ml_wsX70 : ∀ w ∈ wsX70, w ∈ lw_tbl := mem_places _ [351, 353, 355, 357, 359, 361, 363, 365] (by decide +kernel)
set_option maxRecDepth 20000 in
theorem ml_wsX80 : ∀ w ∈ wsX80, w ∈ lw_tbl := mem_places _ [902, 904, 906, 908, 910, 912, 914, 916, 918, 920, 922, 924, 926, 928, 930, 932, 934, 936, 938, 940, 942, 944, 946, 948, 950, 952, 954, 956, 958, 960, 962, 964, 966, 968, 970, 972, 974, 976, 978, 980, 982, 984, 986, 988, 990, 992, 994, 996, 998, 1000, 1002, 1004] (by decide +kernel)
theorem wsL_law_in0 : ∀ w ∈ wsL_law0, w ∈ lw_tbl := fun w h => (List.mem_append.mp h).elim (fun h => (List.mem_append.mp h).elim (fun h => (List.mem_append.mp h).elim (fun h => (List.mem_append.mp h).elim (fun h => (List.mem_append.mp h).elim (fun h => (List.mem_append.mp h).elim (fun h => (List.mem_append.mp h).elim (fun h => (List.mem_append.mp h).elim (fun h => (List.mem_append.mp h).elim (fun h => (List.mem_append.mp h).elim (fun h => (List.mem_append.mp h).elim (fun h => ml_r1 w h) (fun h => (List.mem_append.mp h).elim (fun h => ml_r2 w h) (fun h => (List.mem_append.mp h).elim (fun h => ml_r3 w h) (fun h => (List.mem_append.mp h).elim (fun h => ml_r4 w h) (fun h => (List.mem_append.mp h).elim (fun h => ml_r5 w h) (fun h => (List.mem_append.mp h).elim (fun h => ml_r6 w h) (fun h => (List.mem_append.mp h).elim (fun h => ml_r7 w h) (fun h => (List.mem_append.mp h).elim (fun h => ml_r8 w h) (fun h => (List.mem_append.mp h).elim (fun h => ml_r9 w h) (fun h => (List.mem_append.mp h).elim (fun h => ml_r10 w h) (fun h => (List.mem_append.mp h).elim (fun h => ml_r11 w h) (fun h => (List.mem_append.mp h).elim (fun h => ml_r12 w h) (fun h => (List.mem_append.mp h).elim (fun h => ml_r13 w h) (fun h => (List.mem_append.mp h).elim (fun h => ml_r14 w h) (fun h => (List.mem_append.mp h).elim (fun h => ml_r15 w h) (fun h => (List.mem_append.mp h).elim (fun h => ml_r16 w h) (fun h => (List.mem_append.mp h).elim (fun h => ml_r17 w h) (fun h => (List.mem_append.mp h).elim (fun h => ml_r18 w h) (fun h => (List.mem_append.mp h).elim (fun h => ml_r19 w h) (fun h => (List.mem_append.mp h).elim (fun h => ml_r20 w h) (fun h => (List.mem_append.mp h).elim (fun h => ml_r21 w h) (fun h => (List.mem_append.mp h).elim (fun h => ml_r22 w h) (fun h => (List.mem_append.mp h).elim (fun h => ml_r23 w h) (fun h => (List.mem_append.mp h).elim (fun h => ml_r24 w h) (fun h => (List.mem_append.mp h).elim (fun h => ml_r25 w h) (fun h => (List.mem_append.mp h).elim (fun h => ml_r26 w h) (fun h => (List.mem_append.mp h).elim (fun h => ml_r27 w h) (fun h => (List.mem_append.mp h).elim (fun h => ml_r28 w h) (fun h => (List.mem_append.mp h).elim (fun h => ml_r29 w h) (fun h => (List.mem_append.mp h).elim (fun h => ml_r30 w h) (fun h => (List.mem_append.mp h).elim (fun h => ml_r31 w h) (fun h => (List.mem_append.mp h).elim (fun h => ml_r32 w h) (fun h => ml_r33 w h))))))))))))))))))))))))))))))))) (fun h => ml_wsX70 w h)) (fun h => ml_wsX80 w h)) (fun h => ml_wsX40 w h)) (fun h => ml_wsX50 w h)) (fun h => ml_wsX30 w h)) (fun h => ml_wsX10 w h)) (fun h => ml_wsX60 w h)) (fun h => ml_wsX20 w h)) (fun h => ml_wsX00 w h)) (fun h => nomatch h)
theorem wsL_law_x0 : ∀ w ∈ (vx_atS RX7 239 "java/lang/IndexOutOfBoundsException" ["java/lang/RuntimeException", "java/lang/Exception"]).filter goodWord, w ∈ lw_tbl := by decide +kernel
theorem wsL_law_x1 : ∀ w ∈ (vx_atS RX7 246 "java/util/NoSuchElementException" ["java/lang/RuntimeException", "java/lang/Exception"]).filter goodWord, w ∈ lw_tbl := by decide +kernel
theorem wsL_law_in : ∀ w ∈ wsL_law, w ∈ lw_tbl := fun w h => (List.mem_append.mp h).elim (fun h => (List.mem_append.mp h).elim (fun h => wsL_law_in0 w h) (fun h => wsL_law_x0 w h)) (fun h => wsL_law_x1 w h)
theorem inlX0 : ∀ w ∈ wsX00, w ∈ wsL_law := fun _ h => List.mem_append_left _ (List.mem_append_left _ (List.mem_append_left _ (List.mem_append_right _ h)))
theorem inX0 : ∀ w ∈ wsX00, w ∈ lw_tbl := fun w h => wsL_law_in w (inlX0 w h)
theorem inlX1 : ∀ w ∈ wsX10, w ∈ wsL_law := fun _ h => List.mem_append_left _ (List.mem_append_left _ (List.mem_append_left _ (List.mem_append_left _ (List.mem_append_left _ (List.mem_append_left _ (List.mem_append_right _ h))))))
theorem inX1 : ∀ w ∈ wsX10, w ∈ lw_tbl := fun w h => wsL_law_in w (inlX1 w h)
theorem inlX2 : ∀ w ∈ wsX20, w ∈ wsL_law := fun _ h => List.mem_append_left _ (List.mem_append_left _ (List.mem_append_left _ (List.mem_append_left _ (List.mem_append_right _ h))))
theorem inX2 : ∀ w ∈ wsX20, w ∈ lw_tbl := fun w h => wsL_law_in w (inlX2 w h)
theorem inlX3 : ∀ w ∈ wsX30, w ∈ wsL_law := fun _ h => List.mem_append_left _ (List.mem_append_left _ (List.mem_append_left _ (List.mem_append_left _ (List.mem_append_left _ (List.mem_append_left _ (List.mem_append_left _ (List.mem_append_right _ h)))))))
theorem inX3 : ∀ w ∈ wsX30, w ∈ lw_tbl := fun w h => wsL_law_in w (inlX3 w h)
theorem inlX4 : ∀ w ∈ wsX40, w ∈ wsL_law := fun _ h => List.mem_append_left _ (List.mem_append_left _ (List.mem_append_left _ (List.mem_append_left _ (List.mem_append_left _ (List.mem_append_left _ (List.mem_append_left _ (List.mem_append_left _ (List.mem_append_left _ (List.mem_append_right _ h)))))))))
theorem inX4 : ∀ w ∈ wsX40, w ∈ lw_tbl := fun w h => wsL_law_in w (inlX4 w h)
theorem inlX5 : ∀ w ∈ wsX50, w ∈ wsL_law := fun _ h => List.mem_append_left _ (List.mem_append_left _ (List.mem_append_left _ (List.mem_append_left _ (List.mem_append_left _ (List.mem_append_left _ (List.mem_append_left _ (List.mem_append_left _ (List.mem_append_right _ h))))))))
theorem inX5 : ∀ w ∈ wsX50, w ∈ lw_tbl := fun w h => wsL_law_in w (inlX5 w h)
theorem inlX6 : ∀ w ∈ wsX60, w ∈ wsL_law := fun _ h => List.mem_append_left _ (List.mem_append_left _ (List.mem_append_left _ (List.mem_append_left _ (List.mem_append_left _ (List.mem_append_right _ h)))))
theorem inX6 : ∀ w ∈ wsX60, w ∈ lw_tbl := fun w h => wsL_law_in w (inlX6 w h)
theorem inlX7 : ∀ w ∈ wsX70, w ∈ wsL_law := fun _ h => List.mem_append_left _ (List.mem_append_left _ (List.mem_append_left _ (List.mem_append_left _ (List.mem_append_left _ (List.mem_append_left _ (List.mem_append_left _ (List.mem_append_left _ (List.mem_append_left _ (List.mem_append_left _ (List.mem_append_left _ (List.mem_append_right _ h)))))))))))
theorem inX7 : ∀ w ∈ wsX70, w ∈ lw_tbl := fun w h => wsL_law_in w (inlX7 w h)
theorem inlX8 : ∀ w ∈ wsX80, w ∈ wsL_law := fun _ h => List.mem_append_left _ (List.mem_append_left _ (List.mem_append_left _ (List.mem_append_left _ (List.mem_append_left _ (List.mem_append_left _ (List.mem_append_left _ (List.mem_append_left _ (List.mem_append_left _ (List.mem_append_left _ (List.mem_append_right _ h))))))))))
theorem inX8 : ∀ w ∈ wsX80, w ∈ lw_tbl := fun w h => wsL_law_in w (inlX8 w h)
set_option maxRecDepth 20000 in
theorem ggL_look_X7_look : GoodIn wsL_look wsX7_look := goodIn_ca (goodIn_ca (goodIn_r _ [7, 8, 9, 10, 11, 12, 13, 14, 15, 16, 17, 18, 19, 20, 21, 22, 23, 24, 25, 26, 27, 28, 29, 30, 31, 32, 33, 34, 35, 36, 37, 38, 39, 40, 41, 42, 43, 44, 45, 46, 47, 48, 49, 50, 51, 52, 53, 54, 55, 56, 57, 58, 59, 60, 61, 62] (by decide +kernel) (by decide +kernel)) (goodIn_sub (fun _ h => List.mem_cons_of_mem _ (List.mem_append_left _ (List.mem_append_right _ h))) (by decide +kernel))) (goodIn_sub (fun _ h => List.mem_cons_of_mem _ (List.mem_append_right _ h)) (by decide +kernel))
set_option maxRecDepth 20000 in
theorem gL_look_X7_look : GoodIn wsL_look (wsV RL 7 RX7 yX7_look wsX7_look) := goodIn_app (goodIn_of _ (by decide +kernel)) ggL_look_X7_look
set_option maxRecDepth 20000 in
theorem ggL_law_X7_init : GoodIn wsL_law wsX7_init := goodIn_r _ [9, 10, 11, 12, 13, 14, 15, 16, 17, 18, 19, 20, 21, 22, 23, 24, 25, 26, 27, 28, 29, 30, 31, 32, 33, 34, 35, 36, 37, 38, 39, 40, 41, 42, 43, 44, 45, 46, 47, 48, 49, 50, 51, 52, 53, 54, 55, 56, 57, 58, 59, 60, 61, 62, 63, 64, 65, 66, 67, 68, 69, 70, 71, 72, 73, 74, 75, 76, 77, 78, 79, 80, 81, 82, 83, 84, 85, 86, 87, 88, 89, 90, 91, 92, 93, 94, 95, 96, 97, 6, 98, 99, 100, 101, 102, 103, 104, 105, 106, 107, 848, 849, 850, 851, 852, 853, 854, 855, 856, 857, 858, 788, 789, 790, 791, 792, 793, 794, 795, 859, 860, 861, 862, 863, 864, 865, 866, 867, 868, 869, 870, 871, 872, 873, 874, 875, 876, 877, 878, 879, 880, 881, 882, 883, 884, 885, 886, 887, 888, 889, 890, 891, 892, 893, 894, 895, 896, 897, 898] (by decide +kernel) (by decide +kernel)
set_option maxRecDepth 20000 in
theorem gL_law_X7_init : GoodIn wsL_law (wsX7_init) := ggL_law_X7_init
set_option maxRecDepth 20000 in
theorem ggL_law_X8_init : GoodIn wsL_law wsX8_init := goodIn_r _ [110, 111, 11, 12, 55, 112, 113, 114, 115, 116, 117, 118, 119, 120, 121, 122, 123, 124, 125, 126, 127, 128, 129, 130, 89, 131, 132, 133, 134, 135, 136, 137, 138, 139, 140, 141, 142, 143, 144, 145, 796, 797, 798, 799, 800, 801, 802, 803, 804, 805, 806, 807, 808, 809, 810, 811, 812, 813, 814, 815, 816, 817, 818, 819, 820, 821, 822, 823, 824, 825, 826, 827, 828, 829, 830, 831, 832, 833, 834, 835, 836, 837, 838, 839, 840, 841, 842, 843, 844, 845, 846, 847] (by decide +kernel) (by decide +kernel)
set_option maxRecDepth 20000 in
theorem gL_law_X8_init : GoodIn wsL_law (wsX8_init) := ggL_law_X8_init
set_option maxRecDepth 20000 in
theorem ggL_law_X7_feed : GoodIn wsL_law wsX7_feed := goodIn_r _ [149, 16, 150, 151, 152, 153, 15, 154, 155, 50, 788, 789, 790, 791, 792, 793, 794, 795, 848, 849, 850, 851, 852, 853, 854, 855, 856, 857, 858] (by decide +kernel) (by decide +kernel)
set_option maxRecDepth 20000 in
theorem gL_law_X7_feed : GoodIn wsL_law (wsV RL 21 RX7 yX7_feed wsX7_feed) := goodIn_app (goodIn_of _ (by decide +kernel)) ggL_law_X7_feed
set_option maxRecDepth 20000 in
theorem ggL_law_X8_feed : GoodIn wsL_law wsX8_feed := goodIn_r _ [159, 160, 161, 112, 796, 797, 798, 799, 800, 801, 802, 803, 804, 805, 806, 807, 808, 809, 810, 811, 812, 813, 814, 815, 816, 817, 818, 819, 820, 821, 822, 823, 824, 825, 826, 827, 828, 829, 830, 831, 832, 833, 834, 835, 836, 837, 838, 839, 840, 841, 842, 843, 844, 845, 846, 847] (by decide +kernel) (by decide +kernel)
set_option maxRecDepth 20000 in
theorem gL_law_X8_feed : GoodIn wsL_law (wsV RL 25 RX8 yX8_feed wsX8_feed) := goodIn_app (goodIn_of _ (by decide +kernel)) ggL_law_X8_feed
set_option maxRecDepth 20000 in
theorem ggL_law_X7_statutes : GoodIn wsL_law wsX7_statutes := goodIn_r _ [165, 16, 150, 20, 166, 167, 168, 169, 15, 170, 155, 171, 172, 173, 174, 175, 176, 177, 47, 48, 46, 178, 179, 58, 59, 19, 60, 56, 61, 62, 63, 64, 65, 66, 67, 68, 180, 181, 182, 183, 184, 185, 186, 187, 188, 50, 189, 190, 191, 192, 193, 194, 195, 196, 197, 198, 199, 200, 201, 202, 203, 204, 205, 206, 207, 208, 209, 210, 211, 212, 213, 214, 215, 216, 217, 218, 219, 220, 221, 222, 223, 224, 225, 226, 227, 228, 229, 230, 231, 232, 233, 234, 235, 236, 237, 238, 239, 240, 241, 242, 243, 244, 245, 246, 247, 248, 249, 250, 251, 252, 253, 254, 255, 256, 257, 258, 259, 260, 261, 262, 263, 264, 265, 266, 267, 268, 269, 270, 271, 272, 273, 274, 275, 276, 277, 278, 279, 280, 281, 282, 283, 284, 285, 286, 287, 288, 289, 290, 291, 292, 293, 294, 295, 296, 297, 298, 299, 300, 301, 302, 303, 304, 305, 306, 307, 308, 788, 789, 790, 791, 792, 793, 794, 795, 848, 849, 850, 851, 852, 853, 854, 855, 856, 857, 858, 859, 860, 861, 862, 863, 864, 865, 866, 867] (by decide +kernel) (by decide +kernel)
set_option maxRecDepth 20000 in
theorem gL_law_X7_statutes : GoodIn wsL_law (wsV RL 26 RX7 yX7_statutes wsX7_statutes) := goodIn_app (goodIn_of _ (by decide +kernel)) ggL_law_X7_statutes
set_option maxRecDepth 20000 in
theorem ggL_law_X8_statutes : GoodIn wsL_law wsX8_statutes := goodIn_r _ [312, 160, 161, 313, 314, 121, 137, 138, 315, 316, 113, 317, 318, 319, 114, 320, 115, 116, 117, 118, 119, 120, 321, 322, 323, 5, 324, 112, 325, 326, 327, 328, 329, 330, 331, 332, 333, 334, 136, 335, 336, 337, 338, 339, 340, 341, 342, 343, 344, 345, 346, 347, 348, 349, 350, 351, 352, 353, 354, 355, 796, 797, 798, 799, 800, 801, 802, 803, 804, 805, 806, 807, 808, 809, 810, 811, 812, 813, 814, 815, 816, 817, 818, 819, 820, 821, 822, 823, 824, 825, 826, 827, 828, 829, 830, 831, 832, 833, 834, 835, 836, 837, 838, 839, 840, 841, 842, 843, 844, 845, 846, 847] (by decide +kernel) (by decide +kernel)
set_option maxRecDepth 20000 in
theorem gL_law_X8_statutes : GoodIn wsL_law (wsV RL 30 RX8 yX8_statutes wsX8_statutes) := goodIn_app (goodIn_of _ (by decide +kernel)) ggL_law_X8_statutes
set_option maxRecDepth 20000 in
theorem ggL_law_X7_fault : GoodIn wsL_law wsX7_fault := goodIn_r _ [359, 16, 360, 361, 788, 789, 790, 791, 792, 793, 794, 795, 848, 849, 850, 851, 852, 853, 854, 855, 856, 857, 858] (by decide +kernel) (by decide +kernel)
set_option maxRecDepth 20000 in
theorem gL_law_X7_fault : GoodIn wsL_law (wsV RL 31 RX7 yX7_fault wsX7_fault) := goodIn_app (goodIn_of _ (by decide +kernel)) ggL_law_X7_fault
set_option maxRecDepth 20000 in
theorem ggL_law_X8_fault : GoodIn wsL_law wsX8_fault := goodIn_r _ [365, 160, 314, 121, 796, 797, 798, 799, 800, 801, 802, 803, 804, 805, 806, 807, 808, 809, 810, 811, 812, 813, 814, 815, 816, 817, 818, 819, 820, 821, 822, 823, 824, 825, 826, 827, 828, 829, 830, 831, 832, 833, 834, 835, 836, 837, 838, 839, 840, 841, 842, 843, 844, 845, 846, 847] (by decide +kernel) (by decide +kernel)
set_option maxRecDepth 20000 in
theorem gL_law_X8_fault : GoodIn wsL_law (wsV RL 34 RX8 yX8_fault wsX8_fault) := goodIn_app (goodIn_of _ (by decide +kernel)) ggL_law_X8_fault
set_option maxRecDepth 20000 in
theorem ggL_law_X7_giver : GoodIn wsL_law wsX7_giver := goodIn_r _ [369, 24, 370, 371, 372, 23, 373, 374, 73, 74, 788, 789, 790, 791, 792, 793, 794, 795, 868, 869, 870, 871] (by decide +kernel) (by decide +kernel)
set_option maxRecDepth 20000 in
theorem gL_law_X7_giver : GoodIn wsL_law (wsV RL 35 RX7 yX7_giver wsX7_giver) := goodIn_app (goodIn_of _ (by decide +kernel)) ggL_law_X7_giver
set_option maxRecDepth 20000 in
theorem ggL_law_X8_giver : GoodIn wsL_law wsX8_giver := goodIn_r _ [378, 160, 379, 122, 123, 796, 797, 798, 799, 800, 801, 802, 803, 804, 805, 806, 807, 808, 809, 810, 811, 812, 813, 814, 815, 816, 817, 818, 819, 820, 821, 822, 823, 824, 825, 826, 827, 828, 829, 830, 831, 832, 833, 834, 835, 836, 837, 838, 839, 840, 841, 842, 843, 844, 845, 846, 847] (by decide +kernel) (by decide +kernel)
set_option maxRecDepth 20000 in
theorem gL_law_X8_giver : GoodIn wsL_law (wsV RL 39 RX8 yX8_giver wsX8_giver) := goodIn_app (goodIn_of _ (by decide +kernel)) ggL_law_X8_giver
set_option maxRecDepth 20000 in
theorem ggL_law_X7_gift : GoodIn wsL_law wsX7_gift := goodIn_r _ [383, 24, 384, 385, 386, 23, 387, 374, 388, 389, 390, 391, 392, 73, 393, 788, 789, 790, 791, 792, 793, 794, 795, 868, 869, 870, 871] (by decide +kernel) (by decide +kernel)
set_option maxRecDepth 20000 in
theorem gL_law_X7_gift : GoodIn wsL_law (wsV RL 40 RX7 yX7_gift wsX7_gift) := goodIn_app (goodIn_of _ (by decide +kernel)) ggL_law_X7_gift
set_option maxRecDepth 20000 in
theorem ggL_law_X8_gift : GoodIn wsL_law wsX8_gift := goodIn_r _ [397, 160, 379, 326, 122, 796, 797, 798, 799, 800, 801, 802, 803, 804, 805, 806, 807, 808, 809, 810, 811, 812, 813, 814, 815, 816, 817, 818, 819, 820, 821, 822, 823, 824, 825, 826, 827, 828, 829, 830, 831, 832, 833, 834, 835, 836, 837, 838, 839, 840, 841, 842, 843, 844, 845, 846, 847] (by decide +kernel) (by decide +kernel)
set_option maxRecDepth 20000 in
theorem gL_law_X8_gift : GoodIn wsL_law (wsV RL 43 RX8 yX8_gift wsX8_gift) := goodIn_app (goodIn_of _ (by decide +kernel)) ggL_law_X8_gift
set_option maxRecDepth 20000 in
theorem ggL_law_X7_support : GoodIn wsL_law wsX7_support := goodIn_r _ [401, 24, 28, 402, 384, 385, 386, 23, 387, 374, 403, 404, 405, 27, 406, 407, 788, 789, 790, 791, 792, 793, 794, 795, 868, 869, 870, 871, 872, 873, 874, 875, 876, 877, 878] (by decide +kernel) (by decide +kernel)
set_option maxRecDepth 20000 in
theorem gL_law_X7_support : GoodIn wsL_law (wsV RL 44 RX7 yX7_support wsX7_support) := goodIn_app (goodIn_of _ (by decide +kernel)) ggL_law_X7_support
set_option maxRecDepth 20000 in
theorem ggL_law_X8_support : GoodIn wsL_law wsX8_support := goodIn_r _ [411, 160, 379, 123, 412, 413, 414, 5, 415, 416, 796, 797, 798, 799, 800, 801, 802, 803, 804, 805, 806, 807, 808, 809, 810, 811, 812, 813, 814, 815, 816, 817, 818, 819, 820, 821, 822, 823, 824, 825, 826, 827, 828, 829, 830, 831, 832, 833, 834, 835, 836, 837, 838, 839, 840, 841, 842, 843, 844, 845, 846, 847] (by decide +kernel) (by decide +kernel)
set_option maxRecDepth 20000 in
theorem gL_law_X8_support : GoodIn wsL_law (wsV RL 48 RX8 yX8_support wsX8_support) := goodIn_app (goodIn_of _ (by decide +kernel)) ggL_law_X8_support
set_option maxRecDepth 20000 in
theorem ggL_law_X7_child : GoodIn wsL_law wsX7_child := goodIn_r _ [420, 28, 421, 422, 423, 27, 424, 407, 78, 79, 80, 81, 82, 83, 425, 426, 427, 788, 789, 790, 791, 792, 793, 794, 795, 872, 873, 874, 875, 876, 877, 878] (by decide +kernel) (by decide +kernel)
set_option maxRecDepth 20000 in
theorem gL_law_X7_child : GoodIn wsL_law (wsV RL 49 RX7 yX7_child wsX7_child) := goodIn_app (goodIn_of _ (by decide +kernel)) ggL_law_X7_child
set_option maxRecDepth 20000 in
theorem ggL_law_X8_child : GoodIn wsL_law wsX8_child := goodIn_r _ [431, 160, 416, 124, 125, 126, 127, 128, 796, 797, 798, 799, 800, 801, 802, 803, 804, 805, 806, 807, 808, 809, 810, 811, 812, 813, 814, 815, 816, 817, 818, 819, 820, 821, 822, 823, 824, 825, 826, 827, 828, 829, 830, 831, 832, 833, 834, 835, 836, 837, 838, 839, 840, 841, 842, 843, 844, 845, 846, 847] (by decide +kernel) (by decide +kernel)
set_option maxRecDepth 20000 in
theorem gL_law_X8_child : GoodIn wsL_law (wsV RL 53 RX8 yX8_child wsX8_child) := goodIn_app (goodIn_of _ (by decide +kernel)) ggL_law_X8_child
set_option maxRecDepth 20000 in
theorem ggL_law_X7_fill : GoodIn wsL_law wsX7_fill := goodIn_r _ [435, 28, 20, 436, 437, 438, 439, 440, 27, 441, 407, 82, 442, 443, 444, 19, 445, 62, 56, 446, 447, 448, 2, 449, 450, 451, 452, 453, 24, 454, 455, 456, 457, 458, 23, 459, 74, 393, 385, 386, 387, 374, 460, 461, 462, 463, 464, 465, 466, 403, 404, 405, 406, 467, 468, 469, 470, 471, 472, 473, 474, 475, 476, 477, 73, 478, 479, 480, 481, 482, 483, 484, 485, 61, 788, 789, 790, 791, 792, 793, 794, 795, 859, 860, 861, 862, 863, 864, 865, 866, 867, 872, 873, 874, 875, 876, 877, 878, 868, 869, 870, 871] (by decide +kernel) (by decide +kernel)
set_option maxRecDepth 20000 in
theorem gL_law_X7_fill : GoodIn wsL_law (wsV RL 54 RX7 yX7_fill wsX7_fill) := goodIn_app (goodIn_of _ (by decide +kernel)) ggL_law_X7_fill
set_option maxRecDepth 20000 in
theorem ggL_law_X8_fill : GoodIn wsL_law wsX8_fill := goodIn_r _ [489, 160, 120, 128, 320, 114, 490, 491, 492, 5, 493, 416, 494, 495, 496, 497, 113, 379, 498, 123, 499, 500, 501, 502, 124, 116, 117, 503, 504, 505, 506, 122, 115, 507, 508, 509, 510, 125, 796, 797, 798, 799, 800, 801, 802, 803, 804, 805, 806, 807, 808, 809, 810, 811, 812, 813, 814, 815, 816, 817, 818, 819, 820, 821, 822, 823, 824, 825, 826, 827, 828, 829, 830, 831, 832, 833, 834, 835, 836, 837, 838, 839, 840, 841, 842, 843, 844, 845, 846, 847] (by decide +kernel) (by decide +kernel)
set_option maxRecDepth 20000 in
theorem gL_law_X8_fill : GoodIn wsL_law (wsV RL 57 RX8 yX8_fill wsX8_fill) := goodIn_app (goodIn_of _ (by decide +kernel)) ggL_law_X8_fill
set_option maxRecDepth 20000 in
theorem ggL_law_X7_year : GoodIn wsL_law wsX7_year := goodIn_r _ [514, 41, 28, 471, 437, 464, 20, 466, 515, 32, 516, 517, 518, 519, 520, 27, 521, 78, 522, 172, 173, 174, 80, 81, 523, 404, 405, 406, 407, 524, 525, 526, 2, 527, 528, 529, 530, 531, 31, 532, 533, 403, 534, 535, 536, 537, 88, 90, 538, 788, 789, 790, 791, 792, 793, 794, 795, 872, 873, 874, 875, 876, 877, 878, 859, 860, 861, 862, 863, 864, 865, 866, 867, 879, 880, 881, 882, 883] (by decide +kernel) (by decide +kernel)
set_option maxRecDepth 20000 in
theorem gL_law_X7_year : GoodIn wsL_law (wsV RL 58 RX7 yX7_year wsX7_year) := goodIn_app (goodIn_of _ (by decide +kernel)) ggL_law_X7_year
set_option maxRecDepth 20000 in
theorem ggL_law_X8_year : GoodIn wsL_law wsX8_year := goodIn_r _ [542, 160, 543, 416, 124, 126, 127, 128, 117, 544, 132, 131, 130, 118, 796, 797, 798, 799, 800, 801, 802, 803, 804, 805, 806, 807, 808, 809, 810, 811, 812, 813, 814, 815, 816, 817, 818, 819, 820, 821, 822, 823, 824, 825, 826, 827, 828, 829, 830, 831, 832, 833, 834, 835, 836, 837, 838, 839, 840, 841, 842, 843, 844, 845, 846, 847] (by decide +kernel) (by decide +kernel)
set_option maxRecDepth 20000 in
theorem gL_law_X8_year : GoodIn wsL_law (wsV RL 61 RX8 yX8_year wsX8_year) := goodIn_app (goodIn_of _ (by decide +kernel)) ggL_law_X8_year
set_option maxRecDepth 20000 in
theorem ggL_law_X7_feast : GoodIn wsL_law wsX7_feast := goodIn_r _ [548, 36, 28, 32, 20, 549, 516, 550, 551, 552, 553, 554, 555, 556, 35, 557, 558, 559, 560, 561, 562, 563, 564, 95, 97, 565, 566, 567, 568, 569, 98, 570, 571, 572, 31, 573, 533, 90, 87, 574, 575, 576, 577, 578, 579, 580, 581, 582, 583, 584, 585, 586, 587, 588, 589, 590, 591, 592, 593, 594, 595, 596, 597, 598, 599, 600, 601, 602, 603, 604, 96, 605, 606, 607, 608, 609, 610, 611, 612, 613, 614, 615, 616, 524, 525, 526, 2, 527, 528, 515, 529, 530, 531, 532, 403, 404, 405, 27, 406, 407, 617, 618, 619, 620, 88, 91, 621, 622, 623, 624, 788, 789, 790, 791, 792, 793, 794, 795, 859, 860, 861, 862, 863, 864, 865, 866, 867, 879, 880, 881, 882, 883, 884, 885, 886, 887, 888, 889, 872, 873, 874, 875, 876, 877, 878] (by decide +kernel) (by decide +kernel)
set_option maxRecDepth 20000 in
theorem gL_law_X7_feast : GoodIn wsL_law (wsV RL 62 RX7 yX7_feast wsX7_feast) := goodIn_app (goodIn_of _ (by decide +kernel)) ggL_law_X7_feast
set_option maxRecDepth 20000 in
theorem ggL_law_X8_feast : GoodIn wsL_law wsX8_feast := goodIn_r _ [628, 160, 629, 416, 128, 139, 142, 141, 544, 143, 131, 132, 129, 126, 130, 630, 631, 632, 5, 633, 634, 635, 636, 637, 119, 638, 639, 640, 641, 642, 643, 644, 645, 796, 797, 798, 799, 800, 801, 802, 803, 804, 805, 806, 807, 808, 809, 810, 811, 812, 813, 814, 815, 816, 817, 818, 819, 820, 821, 822, 823, 824, 825, 826, 827, 828, 829, 830, 831, 832, 833, 834, 835, 836, 837, 838, 839, 840, 841, 842, 843, 844, 845, 846, 847] (by decide +kernel) (by decide +kernel)
set_option maxRecDepth 20000 in
theorem gL_law_X8_feast : GoodIn wsL_law (wsV RL 65 RX8 yX8_feast wsX8_feast) := goodIn_app (goodIn_of _ (by decide +kernel)) ggL_law_X8_feast
set_option maxRecDepth 20000 in
theorem ggL_law_X7_legacy : GoodIn wsL_law wsX7_legacy := goodIn_r _ [649, 40, 650, 651, 652, 39, 653, 654, 105, 106, 788, 789, 790, 791, 792, 793, 794, 795, 890, 891, 892, 893, 894, 895, 896, 897, 898] (by decide +kernel) (by decide +kernel)
set_option maxRecDepth 20000 in
theorem gL_law_X7_legacy : GoodIn wsL_law (wsV RL 66 RX7 yX7_legacy wsX7_legacy) := goodIn_app (goodIn_of _ (by decide +kernel)) ggL_law_X7_legacy
set_option maxRecDepth 20000 in
theorem ggL_law_X8_legacy : GoodIn wsL_law wsX8_legacy := goodIn_r _ [658, 160, 659, 133, 134, 796, 797, 798, 799, 800, 801, 802, 803, 804, 805, 806, 807, 808, 809, 810, 811, 812, 813, 814, 815, 816, 817, 818, 819, 820, 821, 822, 823, 824, 825, 826, 827, 828, 829, 830, 831, 832, 833, 834, 835, 836, 837, 838, 839, 840, 841, 842, 843, 844, 845, 846, 847] (by decide +kernel) (by decide +kernel)
set_option maxRecDepth 20000 in
theorem gL_law_X8_legacy : GoodIn wsL_law (wsV RL 69 RX8 yX8_legacy wsX8_legacy) := goodIn_app (goodIn_of _ (by decide +kernel)) ggL_law_X8_legacy
set_option maxRecDepth 20000 in
theorem ggL_law_X7_need : GoodIn wsL_law wsX7_need := goodIn_r _ [663, 40, 664, 788, 789, 790, 791, 792, 793, 794, 795, 890, 891, 892, 893, 894, 895, 896, 897, 898] (by decide +kernel) (by decide +kernel)
set_option maxRecDepth 20000 in
theorem gL_law_X7_need : GoodIn wsL_law (wsV RL 70 RX7 yX7_need wsX7_need) := goodIn_app (goodIn_of _ (by decide +kernel)) ggL_law_X7_need
set_option maxRecDepth 20000 in
theorem ggL_law_X8_need : GoodIn wsL_law wsX8_need := goodIn_r _ [668, 160, 135, 796, 797, 798, 799, 800, 801, 802, 803, 804, 805, 806, 807, 808, 809, 810, 811, 812, 813, 814, 815, 816, 817, 818, 819, 820, 821, 822, 823, 824, 825, 826, 827, 828, 829, 830, 831, 832, 833, 834, 835, 836, 837, 838, 839, 840, 841, 842, 843, 844, 845, 846, 847] (by decide +kernel) (by decide +kernel)
set_option maxRecDepth 20000 in
theorem gL_law_X8_need : GoodIn wsL_law (wsV RL 73 RX8 yX8_need wsX8_need) := goodIn_app (goodIn_of _ (by decide +kernel)) ggL_law_X8_need
set_option maxRecDepth 20000 in
theorem ggL_law_X7_owed : GoodIn wsL_law wsX7_owed := goodIn_r _ [672, 40, 673, 674, 675, 676, 677, 678, 679, 680, 39, 681, 682, 683, 684, 685, 102, 654, 686, 687, 107, 103, 688, 689, 690, 691, 692, 693, 694, 695, 106, 105, 696, 697, 698, 699, 104, 700, 701, 702, 703, 704, 705, 173, 706, 788, 789, 790, 791, 792, 793, 794, 795, 890, 891, 892, 893, 894, 895, 896, 897, 898] (by decide +kernel) (by decide +kernel)
set_option maxRecDepth 20000 in
theorem gL_law_X7_owed : GoodIn wsL_law (wsV RL 74 RX7 yX7_owed wsX7_owed) := goodIn_app (goodIn_of _ (by decide +kernel)) ggL_law_X7_owed
set_option maxRecDepth 20000 in
theorem ggL_law_X8_owed : GoodIn wsL_law wsX8_owed := goodIn_r _ [710, 160, 144, 659, 145, 711, 712, 713, 5, 714, 135, 133, 134, 715, 716, 717, 718, 719, 720, 721, 722, 723, 724, 725, 726, 796, 797, 798, 799, 800, 801, 802, 803, 804, 805, 806, 807, 808, 809, 810, 811, 812, 813, 814, 815, 816, 817, 818, 819, 820, 821, 822, 823, 824, 825, 826, 827, 828, 829, 830, 831, 832, 833, 834, 835, 836, 837, 838, 839, 840, 841, 842, 843, 844, 845, 846, 847] (by decide +kernel) (by decide +kernel)
set_option maxRecDepth 20000 in
theorem gL_law_X8_owed : GoodIn wsL_law (wsV RL 77 RX8 yX8_owed wsX8_owed) := goodIn_app (goodIn_of _ (by decide +kernel)) ggL_law_X8_owed
set_option maxRecDepth 20000 in
theorem ggL_law_X7_pay : GoodIn wsL_law wsX7_pay := goodIn_r _ [730, 40, 678, 679, 680, 39, 681, 682, 683, 684, 685, 102, 654, 686, 687, 107, 103, 688, 689, 690, 691, 692, 693, 694, 695, 106, 105, 696, 697, 698, 699, 104, 700, 701, 702, 703, 704, 705, 173, 706, 731, 732, 733, 734, 788, 789, 790, 791, 792, 793, 794, 795, 890, 891, 892, 893, 894, 895, 896, 897, 898] (by decide +kernel) (by decide +kernel)
set_option maxRecDepth 20000 in
theorem gL_law_X7_pay : GoodIn wsL_law (wsV RL 78 RX7 yX7_pay wsX7_pay) := goodIn_app (goodIn_of _ (by decide +kernel)) ggL_law_X7_pay
set_option maxRecDepth 20000 in
theorem ggL_law_X8_pay : GoodIn wsL_law wsX8_pay := goodIn_r _ [738, 160, 135, 144, 659, 133, 145, 711, 712, 713, 5, 714, 134, 715, 716, 717, 718, 796, 797, 798, 799, 800, 801, 802, 803, 804, 805, 806, 807, 808, 809, 810, 811, 812, 813, 814, 815, 816, 817, 818, 819, 820, 821, 822, 823, 824, 825, 826, 827, 828, 829, 830, 831, 832, 833, 834, 835, 836, 837, 838, 839, 840, 841, 842, 843, 844, 845, 846, 847] (by decide +kernel) (by decide +kernel)
set_option maxRecDepth 20000 in
theorem gL_law_X8_pay : GoodIn wsL_law (wsV RL 81 RX8 yX8_pay wsX8_pay) := goodIn_app (goodIn_of _ (by decide +kernel)) ggL_law_X8_pay
set_option maxRecDepth 20000 in
theorem ggL_law_L_look : GoodIn wsL_law wsL_look := goodIn_ca (goodIn_ca (goodIn_r _ [742, 743, 744, 745, 746, 747, 2, 748, 749, 750, 751, 752, 28, 464, 473, 553, 437, 515, 24, 20, 472, 403, 404, 405, 27, 406, 407, 474, 475, 476, 23, 477, 374, 74, 73, 788, 789, 790, 791, 792, 793, 794, 795, 872, 873, 874, 875, 876, 877, 878, 859, 860, 861, 862, 863, 864, 865, 866, 867, 868, 869, 870, 871] (by decide +kernel) (by decide +kernel)) (goodIn_sub (fun _ h => List.mem_append_left _ (List.mem_append_right _ h)) (by decide +kernel))) (goodIn_sub (fun _ h => List.mem_append_right _ h) (by decide +kernel))
set_option maxRecDepth 20000 in
theorem gL_law_L_look : GoodIn wsL_law (va_wsS RL 82 yL_look wsL_look) := goodIn_app (goodIn_of _ (by decide +kernel)) ggL_law_L_look
set_option maxRecDepth 20000 in
theorem ggL_law_X8_look : GoodIn wsL_law wsX8_look := goodIn_r _ [756, 160, 124, 125, 126, 128, 412, 413, 414, 5, 415, 416, 757, 758, 759, 760, 761, 762, 763, 764, 544, 132, 503, 504, 505, 506, 379, 123, 122, 115, 796, 797, 798, 799, 800, 801, 802, 803, 804, 805, 806, 807, 808, 809, 810, 811, 812, 813, 814, 815, 816, 817, 818, 819, 820, 821, 822, 823, 824, 825, 826, 827, 828, 829, 830, 831, 832, 833, 834, 835, 836, 837, 838, 839, 840, 841, 842, 843, 844, 845, 846, 847] (by decide +kernel) (by decide +kernel)
set_option maxRecDepth 20000 in
theorem gL_law_X8_look : GoodIn wsL_law (wsV RL 87 RX8 yX8_look wsX8_look) := goodIn_app (goodIn_of _ (by decide +kernel)) ggL_law_X8_look
set_option maxRecDepth 20000 in
theorem ggL_law_X8_thrown : GoodIn wsL_law wsX8_thrown := goodIn_r _ [768, 160, 796, 797, 798, 799, 800, 801, 802, 803, 804, 805, 806, 807, 808, 809, 810, 811, 812, 813, 814, 815, 816, 817, 818, 819, 820, 821, 822, 823, 824, 825, 826, 827, 828, 829, 830, 831, 832, 833, 834, 835, 836, 837, 838, 839, 840, 841, 842, 843, 844, 845, 846, 847] (by decide +kernel) (by decide +kernel)
set_option maxRecDepth 20000 in
theorem gL_law_X8_thrown : GoodIn wsL_law (wsV RL 88 RX8 yX8_thrown wsX8_thrown) := goodIn_app (goodIn_of _ (by decide +kernel)) ggL_law_X8_thrown
set_option maxRecDepth 20000 in
theorem ggL_law_X7_coat : GoodIn wsL_law wsX7_coat := goodIn_r _ [772, 32, 773, 774, 775, 528, 529, 530, 531, 31, 532, 533, 788, 789, 790, 791, 792, 793, 794, 795, 879, 880, 881, 882, 883] (by decide +kernel) (by decide +kernel)
set_option maxRecDepth 20000 in
theorem gL_law_X7_coat : GoodIn wsL_law (wsV RL 91 RX7 yX7_coat wsX7_coat) := goodIn_app (goodIn_of _ (by decide +kernel)) ggL_law_X7_coat
set_option maxRecDepth 20000 in
theorem ggL_law_X8_coat : GoodIn wsL_law wsX8_coat := goodIn_r _ [779, 160, 544, 129, 130, 131, 132, 796, 797, 798, 799, 800, 801, 802, 803, 804, 805, 806, 807, 808, 809, 810, 811, 812, 813, 814, 815, 816, 817, 818, 819, 820, 821, 822, 823, 824, 825, 826, 827, 828, 829, 830, 831, 832, 833, 834, 835, 836, 837, 838, 839, 840, 841, 842, 843, 844, 845, 846, 847] (by decide +kernel) (by decide +kernel)
set_option maxRecDepth 20000 in
theorem gL_law_X8_coat : GoodIn wsL_law (wsV RL 94 RX8 yX8_coat wsX8_coat) := goodIn_app (goodIn_of _ (by decide +kernel)) ggL_law_X8_coat
set_option maxRecDepth 20000 in
theorem ggL_law_X7_count : GoodIn wsL_law wsX7_count := goodIn_r _ [783, 24, 455, 28, 471, 32, 516, 40, 674, 454, 20, 41, 438, 439, 440, 27, 441, 407, 82, 442, 443, 444, 19, 445, 62, 56, 788, 789, 790, 791, 792, 793, 794, 795, 868, 869, 870, 871, 872, 873, 874, 875, 876, 877, 878, 879, 880, 881, 882, 883, 890, 891, 892, 893, 894, 895, 896, 897, 898, 859, 860, 861, 862, 863, 864, 865, 866, 867] (by decide +kernel) (by decide +kernel)
set_option maxRecDepth 20000 in
theorem gL_law_X7_count : GoodIn wsL_law (wsV RL 95 RX7 yX7_count wsX7_count) := goodIn_app (goodIn_of _ (by decide +kernel)) ggL_law_X7_count
set_option maxRecDepth 20000 in
theorem ggL_law_X8_count : GoodIn wsL_law wsX8_count := goodIn_r _ [787, 160, 379, 416, 544, 659, 498, 113, 320, 543, 490, 491, 492, 5, 493, 128, 796, 797, 798, 799, 800, 801, 802, 803, 804, 805, 806, 807, 808, 809, 810, 811, 812, 813, 814, 815, 816, 817, 818, 819, 820, 821, 822, 823, 824, 825, 826, 827, 828, 829, 830, 831, 832, 833, 834, 835, 836, 837, 838, 839, 840, 841, 842, 843, 844, 845, 846, 847] (by decide +kernel) (by decide +kernel)
set_option maxRecDepth 20000 in
theorem gL_law_X8_count : GoodIn wsL_law (wsV RL 98 RX8 yX8_count wsX8_count) := goodIn_app (goodIn_of _ (by decide +kernel)) ggL_law_X8_count
