theorem mem_places {big : List Cond} (ws : List Cond) (ps : List Nat) (h : ws = ps.filterMap (fun i => big[i]?)) : ∀ w ∈ ws, w ∈ big := by
  intro w hw
  rw [h] at hw
  obtain ⟨i, -, hi⟩ := List.mem_filterMap.mp hw
  first | exact List.mem_of_getElem? hi | exact List.getElem?_mem hi
set_option maxRecDepth 20000 in
theorem inTX0 : ∀ w ∈ wsX00, w ∈ lw_tbl := mem_places _ [324, 326, 328, 330, 332, 334, 336, 338, 340] (by decide +kernel)
set_option maxRecDepth 20000 in
theorem inTX1 : ∀ w ∈ wsX10, w ∈ lw_tbl := mem_places _ [231, 233, 235, 237, 239, 241, 243] (by decide +kernel)
set_option maxRecDepth 20000 in
theorem inTX2 : ∀ w ∈ wsX20, w ∈ lw_tbl := mem_places _ [289, 291, 293, 295, 297, 299] (by decide +kernel)
set_option maxRecDepth 20000 in
theorem inTX3 : ∀ w ∈ wsX30, w ∈ lw_tbl := mem_places _ [200, 202, 204, 206] (by decide +kernel)
set_option maxRecDepth 20000 in
theorem inTX4 : ∀ w ∈ wsX40, w ∈ lw_tbl := mem_places _ [162, 164, 166, 168, 170, 172, 174, 176, 178, 180, 182] (by decide +kernel)
set_option maxRecDepth 20000 in
theorem inTX5 : ∀ w ∈ wsX50, w ∈ lw_tbl := mem_places _ [127, 129, 131, 133, 135, 137, 139, 141, 143] (by decide +kernel)
set_option maxRecDepth 20000 in
theorem inTX6 : ∀ w ∈ wsX60, w ∈ lw_tbl := mem_places _ [262, 264, 266, 268, 270] (by decide +kernel)
set_option maxRecDepth 20000 in
theorem inTX7 : ∀ w ∈ wsX70, w ∈ lw_tbl := mem_places _ [351, 353, 355, 357, 359, 361, 363, 365] (by decide +kernel)
set_option maxRecDepth 20000 in
theorem inTX8 : ∀ w ∈ wsX80, w ∈ lw_tbl := mem_places _ [902, 904, 906, 908, 910, 912, 914, 916, 918, 920, 922, 924, 926, 928, 930, 932, 934, 936, 938, 940, 942, 944, 946, 948, 950, 952, 954, 956, 958, 960, 962, 964, 966, 968, 970, 972, 974, 976, 978, 980, 982, 984, 986, 988, 990, 992, 994, 996, 998, 1000, 1002, 1004] (by decide +kernel)
theorem okTX0 : wsX00.all goodWord = true := by decide +kernel
theorem okTX1 : wsX10.all goodWord = true := by decide +kernel
theorem okTX2 : wsX20.all goodWord = true := by decide +kernel
theorem okTX3 : wsX30.all goodWord = true := by decide +kernel
theorem okTX4 : wsX40.all goodWord = true := by decide +kernel
theorem okTX5 : wsX50.all goodWord = true := by decide +kernel
theorem okTX6 : wsX60.all goodWord = true := by decide +kernel
theorem okTX7 : wsX70.all goodWord = true := by decide +kernel
theorem okTX8 : wsX80.all goodWord = true := by decide +kernel
set_option maxRecDepth 20000 in
theorem ggT_X7_init_0 : GoodIn lw_tbl (.code yX7_init cX7_init 1 none :: ((wsX7_init_r1 ++ (wsX7_init_r2 ++ (wsX7_init_r3 ++ (wsX7_init_r4 ++ wsX7_init_r5)))))) := goodIn_r _ [84, 85, 86, 87, 88, 89, 59, 343, 186, 95, 60, 344, 188, 189, 61, 345, 209, 210, 62, 346, 246, 247, 63, 347, 274, 275, 64, 348, 303, 304, 65, 349, 350, 91, 92, 93, 94, 147, 149, 151, 185, 155, 96, 97, 98, 99, 146, 104, 100, 101, 102, 103, 106, 108, 109, 112, 115, 118, 121, 124, 187, 191, 192, 193, 194, 195, 212, 213, 214, 215, 217, 219, 222, 223, 226, 249, 250, 251, 252, 254, 273, 256, 258, 277, 278, 279, 280, 282, 286, 302, 287, 306, 307, 308, 309, 311, 313, 321, 322, 323] (by decide +kernel) (by decide +kernel)
theorem ggT_X7_init : GoodIn lw_tbl wsX7_init := (goodIn_ca (goodIn_ca (goodIn_ca (goodIn_ca (goodIn_ca (goodIn_ca (goodIn_ca (goodIn_ca ggT_X7_init_0 (goodIn_sub inTX4 okTX4)) (goodIn_sub inTX7 okTX7)) (goodIn_sub inTX5 okTX5)) (goodIn_sub inTX3 okTX3)) (goodIn_sub inTX1 okTX1)) (goodIn_sub inTX6 okTX6)) (goodIn_sub inTX2 okTX2)) (goodIn_sub inTX0 okTX0))
theorem gT_X7_init : GoodIn lw_tbl (wsX7_init) := ggT_X7_init
set_option maxRecDepth 20000 in
theorem ggT_X8_init_0 : GoodIn lw_tbl (.code yX8_init cX8_init 1 none :: ((wsX8_init_r1 ++ wsX8_init_r2))) := goodIn_r _ [847, 848, 86, 87, 146, 850, 853, 854, 855, 856, 857, 858, 859, 860, 863, 865, 866, 869, 870, 871, 872, 873, 875, 876, 273, 877, 878, 881, 882, 883, 884, 891, 892, 895, 849, 897, 898, 899, 900, 901] (by decide +kernel) (by decide +kernel)
theorem ggT_X8_init : GoodIn lw_tbl wsX8_init := (goodIn_ca ggT_X8_init_0 (goodIn_sub inTX8 okTX8))
theorem gT_X8_init : GoodIn lw_tbl (wsX8_init) := ggT_X8_init
set_option maxRecDepth 20000 in
theorem ggT_X7_feed_0 : GoodIn lw_tbl (.code yX7_feed cX7_feed 6 (some .int) :: ([.fieldLink RX7 10 "BlueCoats" "reader" "LBlueCoats$Reader;", .fieldLink RX7 62 "BlueCoats$Reader" "taped" "I", .methodLink RX7 65 yX4_append, .instanceMethod yX4_append, .selects RX4 yX4_append yX4_append, .initialized RX4, .code yX4_append cX4_append 3 none, .fieldLink RX4 29 "BlueCoats$Reader" "taped" "I", .fieldLink RX4 25 "BlueCoats$Reader" "tape" "[B"])) := goodIn_r _ [371, 343, 153, 372, 373, 374, 59, 375, 154, 155] (by decide +kernel) (by decide +kernel)
theorem ggT_X7_feed : GoodIn lw_tbl wsX7_feed := (goodIn_ca (goodIn_ca ggT_X7_feed_0 (goodIn_sub inTX7 okTX7)) (goodIn_sub inTX4 okTX4))
set_option maxRecDepth 20000 in
theorem gT_X7_feed : GoodIn lw_tbl (wsV RL 21 RX7 yX7_feed wsX7_feed) := goodIn_app (goodIn_r _ [368, 369, 370, 58] (by decide +kernel) (by decide +kernel)) ggT_X7_feed
set_option maxRecDepth 20000 in
theorem ggT_X8_feed_0 : GoodIn lw_tbl (.code yX8_feed cX8_feed 8 (some .int) :: ([.fieldLink RX8 112 "BlueCoatsModel" "thrown" "I", .fieldLink RX8 115 "BlueCoatsModel" "tapeSize" "I", .fieldLink RX8 7 "BlueCoatsModel" "tape" "[I"])) := goodIn_r _ [1010, 852, 851, 850] (by decide +kernel) (by decide +kernel)
theorem ggT_X8_feed : GoodIn lw_tbl wsX8_feed := (goodIn_ca ggT_X8_feed_0 (goodIn_sub inTX8 okTX8))
set_option maxRecDepth 20000 in
theorem gT_X8_feed : GoodIn lw_tbl (wsV RL 25 RX8 yX8_feed wsX8_feed) := goodIn_app (goodIn_r _ [1007, 1008, 1009, 66] (by decide +kernel) (by decide +kernel)) ggT_X8_feed
set_option maxRecDepth 20000 in
theorem ggT_X7_statutes_0 : GoodIn lw_tbl (.code yX7_statutes cX7_statutes 3 (some .int) :: ((wsX7_statutes_r1 ++ (wsX7_statutes_r2 ++ (wsX7_statutes_r3 ++ (wsX7_statutes_r4 ++ (wsX7_statutes_r5 ++ (wsX7_statutes_r6 ++ wsX7_statutes_r7)))))))) := goodIn_r _ [379, 343, 153, 344, 148, 380, 381, 382, 59, 383, 154, 384, 385, 67, 386, 156, 159, 161, 149, 151, 147, 157, 387, 101, 102, 60, 103, 104, 106, 108, 109, 112, 115, 118, 121, 124, 388, 390, 0, 391, 158, 392, 394, 1, 395, 155, 396, 397, 398, 399, 400, 401, 402, 403, 404, 405, 407, 2, 408, 160, 409, 410, 412, 3, 413, 414, 416, 4, 417, 419, 421, 5, 422, 423, 424, 425, 68, 426, 1186, 427, 428, 429, 430, 431, 1187, 433, 434, 435, 436, 437, 438, 439, 440, 441, 442, 69, 443, 444, 445, 446, 447, 449, 450, 70, 451, 452, 453, 71, 454, 455, 456, 457, 458, 459, 460, 461, 462, 463, 464, 465, 467, 469, 476, 478, 6, 479, 480, 482, 7, 483, 110, 119, 122, 125, 484, 486, 8, 487, 107, 105, 488, 490, 9, 491, 494, 496, 10, 497, 498, 500, 11, 501, 113, 116, 502, 504, 12, 505, 506, 507, 508, 509, 510, 512, 511, 72] (by decide +kernel) (by decide +kernel)
theorem ggT_X7_statutes : GoodIn lw_tbl wsX7_statutes := (goodIn_ca (goodIn_ca (goodIn_ca ggT_X7_statutes_0 (goodIn_sub inTX7 okTX7)) (goodIn_sub inTX4 okTX4)) (goodIn_sub inTX5 okTX5))
set_option maxRecDepth 20000 in
theorem gT_X7_statutes : GoodIn lw_tbl (wsV RL 26 RX7 yX7_statutes wsX7_statutes) := goodIn_app (goodIn_r _ [376, 377, 378, 58] (by decide +kernel) (by decide +kernel)) ggT_X7_statutes
set_option maxRecDepth 20000 in
theorem ggT_X8_statutes_0 : GoodIn lw_tbl (.code yX8_statutes cX8_statutes 4 (some .int) :: ((wsX8_statutes_r1 ++ (wsX8_statutes_r2 ++ wsX8_statutes_r3)))) := goodIn_r _ [1014, 852, 851, 885, 862, 863, 891, 892, 894, 893, 853, 886, 887, 889, 854, 861, 855, 856, 857, 858, 859, 860, 1015, 1017, 33, 66, 1018, 850, 888, 1031, 1019, 1021, 34, 1022, 1023, 1025, 35, 1026, 884, 1027, 1029, 36, 1030, 1032, 1034, 37, 1035, 890, 1036, 1038, 38, 1039, 1040, 1042, 39, 1043, 1044, 1046, 40, 1047] (by decide +kernel) (by decide +kernel)
theorem ggT_X8_statutes : GoodIn lw_tbl wsX8_statutes := (goodIn_ca ggT_X8_statutes_0 (goodIn_sub inTX8 okTX8))
set_option maxRecDepth 20000 in
theorem gT_X8_statutes : GoodIn lw_tbl (wsV RL 30 RX8 yX8_statutes wsX8_statutes) := goodIn_app (goodIn_r _ [1011, 1012, 1013, 66] (by decide +kernel) (by decide +kernel)) ggT_X8_statutes
set_option maxRecDepth 20000 in
theorem ggT_X7_fault_0 : GoodIn lw_tbl (.code yX7_fault cX7_fault 2 (some .int) :: ([.fieldLink RX7 10 "BlueCoats" "reader" "LBlueCoats$Reader;", .fieldLink RX7 80 "BlueCoats$Reader" "fault" "I", .fieldLink RX7 83 "BlueCoats$Reader" "faultPlace" "I"])) := goodIn_r _ [516, 343, 150, 152] (by decide +kernel) (by decide +kernel)
theorem ggT_X7_fault : GoodIn lw_tbl wsX7_fault := (goodIn_ca (goodIn_ca ggT_X7_fault_0 (goodIn_sub inTX7 okTX7)) (goodIn_sub inTX4 okTX4))
set_option maxRecDepth 20000 in
theorem gT_X7_fault : GoodIn lw_tbl (wsV RL 31 RX7 yX7_fault wsX7_fault) := goodIn_app (goodIn_r _ [513, 514, 515, 58] (by decide +kernel) (by decide +kernel)) ggT_X7_fault
set_option maxRecDepth 20000 in
theorem ggT_X8_fault_0 : GoodIn lw_tbl (.code yX8_fault cX8_fault 2 (some .int) :: ([.fieldLink RX8 112 "BlueCoatsModel" "thrown" "I", .fieldLink RX8 118 "BlueCoatsModel" "fault" "I", .fieldLink RX8 38 "BlueCoatsModel" "faultPlace" "I"])) := goodIn_r _ [1051, 852, 862, 863] (by decide +kernel) (by decide +kernel)
theorem ggT_X8_fault : GoodIn lw_tbl wsX8_fault := (goodIn_ca ggT_X8_fault_0 (goodIn_sub inTX8 okTX8))
set_option maxRecDepth 20000 in
theorem gT_X8_fault : GoodIn lw_tbl (wsV RL 34 RX8 yX8_fault wsX8_fault) := goodIn_app (goodIn_r _ [1048, 1049, 1050, 66] (by decide +kernel) (by decide +kernel)) ggT_X8_fault
set_option maxRecDepth 20000 in
theorem ggT_X7_giver_0 : GoodIn lw_tbl (.code yX7_giver cX7_giver 1 (some .int) :: ([.fieldLink RX7 26 "BlueCoats" "givers" "LBlueCoats$Givers;", .methodLink RX7 86 yX3_add, .instanceMethod yX3_add, .selects RX3 yX3_add yX3_add, .initialized RX3, .code yX3_add cX3_add 1 (some .int), .fieldLink RX3 18 "BlueCoats$Givers" "number" "I", .fieldLink RX3 11 "BlueCoats$Givers" "gave" "[I", .fieldLink RX3 15 "BlueCoats$Givers" "supported" "[I"])) := goodIn_r _ [520, 345, 521, 522, 523, 61, 524, 197, 194, 195] (by decide +kernel) (by decide +kernel)
theorem ggT_X7_giver : GoodIn lw_tbl wsX7_giver := (goodIn_ca (goodIn_ca ggT_X7_giver_0 (goodIn_sub inTX7 okTX7)) (goodIn_sub inTX3 okTX3))
set_option maxRecDepth 20000 in
theorem gT_X7_giver : GoodIn lw_tbl (wsV RL 35 RX7 yX7_giver wsX7_giver) := goodIn_app (goodIn_r _ [517, 518, 519, 58] (by decide +kernel) (by decide +kernel)) ggT_X7_giver
set_option maxRecDepth 20000 in
theorem ggT_X8_giver_0 : GoodIn lw_tbl (.code yX8_giver cX8_giver 1 (some .int) :: ([.fieldLink RX8 112 "BlueCoatsModel" "thrown" "I", .fieldLink RX8 177 "BlueCoatsModel" "givers" "I", .fieldLink RX8 41 "BlueCoatsModel" "gave" "[I", .fieldLink RX8 44 "BlueCoatsModel" "supports" "[I"])) := goodIn_r _ [1055, 852, 864, 865, 866] (by decide +kernel) (by decide +kernel)
theorem ggT_X8_giver : GoodIn lw_tbl wsX8_giver := (goodIn_ca ggT_X8_giver_0 (goodIn_sub inTX8 okTX8))
set_option maxRecDepth 20000 in
theorem gT_X8_giver : GoodIn lw_tbl (wsV RL 39 RX8 yX8_giver wsX8_giver) := goodIn_app (goodIn_r _ [1052, 1053, 1054, 66] (by decide +kernel) (by decide +kernel)) ggT_X8_giver
set_option maxRecDepth 20000 in
theorem ggT_X7_gift_0 : GoodIn lw_tbl (.code yX7_gift cX7_gift 3 (some .int) :: ([.fieldLink RX7 26 "BlueCoats" "givers" "LBlueCoats$Givers;", .methodLink RX7 90 yX3_has, .instanceMethod yX3_has, .selects RX3 yX3_has yX3_has, .initialized RX3, .code yX3_has cX3_has 2 (some .boolean), .fieldLink RX3 18 "BlueCoats$Givers" "number" "I", .methodLink RX7 94 yX3_take, .instanceMethod yX3_take, .selects RX3 yX3_take yX3_take, .code yX3_take cX3_take 3 (some .int), .constant RX3 26 (99999), .fieldLink RX3 11 "BlueCoats$Givers" "gave" "[I", .methodLink RX3 22 yX3_has])) := goodIn_r _ [528, 345, 529, 530, 531, 61, 532, 197, 533, 534, 535, 536, 538, 194, 537] (by decide +kernel) (by decide +kernel)
theorem ggT_X7_gift : GoodIn lw_tbl wsX7_gift := (goodIn_ca (goodIn_ca ggT_X7_gift_0 (goodIn_sub inTX7 okTX7)) (goodIn_sub inTX3 okTX3))
set_option maxRecDepth 20000 in
theorem gT_X7_gift : GoodIn lw_tbl (wsV RL 40 RX7 yX7_gift wsX7_gift) := goodIn_app (goodIn_r _ [525, 526, 527, 58] (by decide +kernel) (by decide +kernel)) ggT_X7_gift
set_option maxRecDepth 20000 in
theorem ggT_X8_gift_0 : GoodIn lw_tbl (.code yX8_gift cX8_gift 3 (some .int) :: ([.fieldLink RX8 112 "BlueCoatsModel" "thrown" "I", .fieldLink RX8 177 "BlueCoatsModel" "givers" "I", .constant RX8 147 (99999), .fieldLink RX8 41 "BlueCoatsModel" "gave" "[I"])) := goodIn_r _ [1059, 852, 864, 1031, 865] (by decide +kernel) (by decide +kernel)
theorem ggT_X8_gift : GoodIn lw_tbl wsX8_gift := (goodIn_ca ggT_X8_gift_0 (goodIn_sub inTX8 okTX8))
set_option maxRecDepth 20000 in
theorem gT_X8_gift : GoodIn lw_tbl (wsV RL 43 RX8 yX8_gift wsX8_gift) := goodIn_app (goodIn_r _ [1056, 1057, 1058, 66] (by decide +kernel) (by decide +kernel)) ggT_X8_gift
set_option maxRecDepth 20000 in
theorem ggT_X7_support_0 : GoodIn lw_tbl (.code yX7_support cX7_support 3 (some .boolean) :: ([.fieldLink RX7 26 "BlueCoats" "givers" "LBlueCoats$Givers;", .fieldLink RX7 33 "BlueCoats" "children" "LBlueCoats$Children;", .fieldLink RX7 99 "BlueCoats$Givers" "supported" "[I", .methodLink RX7 90 yX3_has, .instanceMethod yX3_has, .selects RX3 yX3_has yX3_has, .initialized RX3, .code yX3_has cX3_has 2 (some .boolean), .fieldLink RX3 18 "BlueCoats$Givers" "number" "I", .methodLink RX7 98 yX1_has, .instanceMethod yX1_has, .selects RX1 yX1_has yX1_has, .initialized RX1, .code yX1_has cX1_has 2 (some .boolean), .fieldLink RX1 30 "BlueCoats$Children" "number" "I"])) := goodIn_r _ [542, 345, 346, 196, 529, 530, 531, 61, 532, 197, 543, 544, 545, 62, 546, 228] (by decide +kernel) (by decide +kernel)
theorem ggT_X7_support : GoodIn lw_tbl wsX7_support := (goodIn_ca (goodIn_ca (goodIn_ca ggT_X7_support_0 (goodIn_sub inTX7 okTX7)) (goodIn_sub inTX3 okTX3)) (goodIn_sub inTX1 okTX1))
set_option maxRecDepth 20000 in
theorem gT_X7_support : GoodIn lw_tbl (wsV RL 44 RX7 yX7_support wsX7_support) := goodIn_app (goodIn_r _ [539, 540, 541, 58] (by decide +kernel) (by decide +kernel)) ggT_X7_support
set_option maxRecDepth 20000 in
theorem ggT_X8_support_0 : GoodIn lw_tbl (.code yX8_support cX8_support 3 (some .boolean) :: ([.fieldLink RX8 112 "BlueCoatsModel" "thrown" "I", .fieldLink RX8 177 "BlueCoatsModel" "givers" "I", .fieldLink RX8 44 "BlueCoatsModel" "supports" "[I", .methodLink RX8 183 yX8_isChild, .instanceMethod yX8_isChild, .selects RX8 yX8_isChild yX8_isChild, .initialized RX8, .code yX8_isChild cX8_isChild 2 (some .boolean), .fieldLink RX8 180 "BlueCoatsModel" "children" "I"])) := goodIn_r _ [1063, 852, 864, 866, 1064, 1066, 41, 66, 1067, 868] (by decide +kernel) (by decide +kernel)
theorem ggT_X8_support : GoodIn lw_tbl wsX8_support := (goodIn_ca ggT_X8_support_0 (goodIn_sub inTX8 okTX8))
set_option maxRecDepth 20000 in
theorem gT_X8_support : GoodIn lw_tbl (wsV RL 48 RX8 yX8_support wsX8_support) := goodIn_app (goodIn_r _ [1060, 1061, 1062, 66] (by decide +kernel) (by decide +kernel)) ggT_X8_support
set_option maxRecDepth 20000 in
theorem ggT_X7_child_0 : GoodIn lw_tbl (.code yX7_child cX7_child 5 (some .int) :: ([.fieldLink RX7 33 "BlueCoats" "children" "LBlueCoats$Children;", .methodLink RX7 103 yX1_add, .instanceMethod yX1_add, .selects RX1 yX1_add yX1_add, .initialized RX1, .code yX1_add cX1_add 5 (some .int), .fieldLink RX1 30 "BlueCoats$Children" "number" "I", .fieldLink RX1 11 "BlueCoats$Children" "age" "[I", .fieldLink RX1 15 "BlueCoats$Children" "need" "[I", .fieldLink RX1 18 "BlueCoats$Children" "size" "[I", .fieldLink RX1 21 "BlueCoats$Children" "growth" "[I", .fieldLink RX1 24 "BlueCoats$Children" "state" "[I", .fieldLink RX1 27 "BlueCoats$Children" "coat" "[I", .methodLink RX1 34 yX1_canBe, .static yX1_canBe, .code yX1_canBe cX1_canBe 4 (some .boolean)])) := goodIn_r _ [550, 346, 551, 552, 553, 62, 554, 228, 215, 217, 219, 222, 223, 226, 555, 556, 557] (by decide +kernel) (by decide +kernel)
theorem ggT_X7_child : GoodIn lw_tbl wsX7_child := (goodIn_ca (goodIn_ca ggT_X7_child_0 (goodIn_sub inTX7 okTX7)) (goodIn_sub inTX1 okTX1))
set_option maxRecDepth 20000 in
theorem gT_X7_child : GoodIn lw_tbl (wsV RL 49 RX7 yX7_child wsX7_child) := goodIn_app (goodIn_r _ [547, 548, 549, 58] (by decide +kernel) (by decide +kernel)) ggT_X7_child
set_option maxRecDepth 20000 in
theorem ggT_X8_child_0 : GoodIn lw_tbl (.code yX8_child cX8_child 5 (some .int) :: ([.fieldLink RX8 112 "BlueCoatsModel" "thrown" "I", .fieldLink RX8 180 "BlueCoatsModel" "children" "I", .fieldLink RX8 47 "BlueCoatsModel" "age" "[I", .fieldLink RX8 50 "BlueCoatsModel" "want" "[I", .fieldLink RX8 53 "BlueCoatsModel" "size" "[I", .fieldLink RX8 56 "BlueCoatsModel" "growth" "[I", .fieldLink RX8 59 "BlueCoatsModel" "state" "[I"])) := goodIn_r _ [1071, 852, 868, 869, 870, 871, 872, 873] (by decide +kernel) (by decide +kernel)
theorem ggT_X8_child : GoodIn lw_tbl wsX8_child := (goodIn_ca ggT_X8_child_0 (goodIn_sub inTX8 okTX8))
set_option maxRecDepth 20000 in
theorem gT_X8_child : GoodIn lw_tbl (wsV RL 53 RX8 yX8_child wsX8_child) := goodIn_app (goodIn_r _ [1068, 1069, 1070, 66] (by decide +kernel) (by decide +kernel)) ggT_X8_child
set_option maxRecDepth 20000 in
theorem ggT_X7_fill_0 : GoodIn lw_tbl (.code yX7_fill cX7_fill 2 (some .int) :: ((wsX7_fill_r1 ++ (wsX7_fill_r2 ++ (wsX7_fill_r3 ++ wsX7_fill_r4))))) := goodIn_r _ [561, 346, 344, 126, 225, 562, 563, 564, 62, 565, 228, 223, 566, 567, 568, 60, 569, 108, 104, 570, 572, 13, 58, 573, 574, 576, 14, 577, 345, 199, 198, 578, 579, 580, 61, 581, 195, 537, 530, 531, 532, 197, 582, 584, 15, 585, 216, 114, 117, 543, 544, 545, 546, 586, 588, 16, 589, 230, 111, 218, 590, 591, 592, 593, 194, 594, 596, 17, 597, 598, 599, 600, 601, 106] (by decide +kernel) (by decide +kernel)
theorem ggT_X7_fill : GoodIn lw_tbl wsX7_fill := (goodIn_ca (goodIn_ca (goodIn_ca (goodIn_ca ggT_X7_fill_0 (goodIn_sub inTX7 okTX7)) (goodIn_sub inTX5 okTX5)) (goodIn_sub inTX1 okTX1)) (goodIn_sub inTX3 okTX3))
set_option maxRecDepth 20000 in
theorem gT_X7_fill : GoodIn lw_tbl (wsV RL 54 RX7 yX7_fill wsX7_fill) := goodIn_app (goodIn_r _ [558, 559, 560, 58] (by decide +kernel) (by decide +kernel)) ggT_X7_fill
set_option maxRecDepth 20000 in
theorem ggT_X8_fill_0 : GoodIn lw_tbl (.code yX8_fill cX8_fill 2 (some .int) :: ((wsX8_fill_r1 ++ wsX8_fill_r2))) := goodIn_r _ [1075, 852, 860, 873, 861, 854, 1076, 1078, 42, 66, 1079, 868, 1080, 1082, 43, 1083, 853, 864, 867, 866, 1084, 1086, 44, 1087, 869, 856, 857, 1088, 1090, 45, 1091, 865, 855, 1092, 1094, 46, 1095, 870] (by decide +kernel) (by decide +kernel)
theorem ggT_X8_fill : GoodIn lw_tbl wsX8_fill := (goodIn_ca ggT_X8_fill_0 (goodIn_sub inTX8 okTX8))
set_option maxRecDepth 20000 in
theorem gT_X8_fill : GoodIn lw_tbl (wsV RL 57 RX8 yX8_fill wsX8_fill) := goodIn_app (goodIn_r _ [1072, 1073, 1074, 66] (by decide +kernel) (by decide +kernel)) ggT_X8_fill
set_option maxRecDepth 20000 in
theorem ggT_X7_year_0 : GoodIn lw_tbl (.code yX7_year cX7_year 3 (some .int) :: ((wsX7_year_r1 ++ wsX7_year_r2))) := goodIn_r _ [605, 350, 346, 230, 225, 216, 344, 117, 227, 347, 261, 120, 606, 607, 608, 62, 609, 215, 611, 385, 67, 386, 219, 222, 610, 544, 545, 546, 228, 612, 614, 18, 58, 615, 259, 616, 617, 618, 63, 619, 260, 543, 620, 621, 622, 623, 254, 256, 624] (by decide +kernel) (by decide +kernel)
theorem ggT_X7_year : GoodIn lw_tbl wsX7_year := (goodIn_ca (goodIn_ca (goodIn_ca (goodIn_ca ggT_X7_year_0 (goodIn_sub inTX7 okTX7)) (goodIn_sub inTX1 okTX1)) (goodIn_sub inTX5 okTX5)) (goodIn_sub inTX6 okTX6))
set_option maxRecDepth 20000 in
theorem gT_X7_year : GoodIn lw_tbl (wsV RL 58 RX7 yX7_year wsX7_year) := goodIn_app (goodIn_r _ [602, 603, 604, 58] (by decide +kernel) (by decide +kernel)) ggT_X7_year
set_option maxRecDepth 20000 in
theorem ggT_X8_year_0 : GoodIn lw_tbl (.code yX8_year cX8_year 4 (some .int) :: ([.fieldLink RX8 112 "BlueCoatsModel" "thrown" "I", .fieldLink RX8 207 "BlueCoatsModel" "years" "I", .fieldLink RX8 180 "BlueCoatsModel" "children" "I", .fieldLink RX8 47 "BlueCoatsModel" "age" "[I", .fieldLink RX8 53 "BlueCoatsModel" "size" "[I", .fieldLink RX8 56 "BlueCoatsModel" "growth" "[I", .fieldLink RX8 59 "BlueCoatsModel" "state" "[I", .fieldLink RX8 26 "BlueCoatsModel" "high" "I", .fieldLink RX8 210 "BlueCoatsModel" "coats" "I", .fieldLink RX8 72 "BlueCoatsModel" "wearer" "[I", .fieldLink RX8 68 "BlueCoatsModel" "gone" "[Z", .fieldLink RX8 65 "BlueCoatsModel" "worn" "[I", .fieldLink RX8 29 "BlueCoatsModel" "wear" "I"])) := goodIn_r _ [1099, 852, 879, 868, 869, 871, 872, 873, 857, 874, 878, 877, 876, 858] (by decide +kernel) (by decide +kernel)
theorem ggT_X8_year : GoodIn lw_tbl wsX8_year := (goodIn_ca ggT_X8_year_0 (goodIn_sub inTX8 okTX8))
set_option maxRecDepth 20000 in
theorem gT_X8_year : GoodIn lw_tbl (wsV RL 61 RX8 yX8_year wsX8_year) := goodIn_app (goodIn_r _ [1096, 1097, 1098, 66] (by decide +kernel) (by decide +kernel)) ggT_X8_year
set_option maxRecDepth 20000 in
theorem ggT_X7_feast_0 : GoodIn lw_tbl (.code yX7_feast cX7_feast 5 (some .int) :: ((wsX7_feast_r1 ++ (wsX7_feast_r2 ++ (wsX7_feast_r3 ++ (wsX7_feast_r4 ++ wsX7_feast_r5)))))) := goodIn_r _ [628, 348, 346, 347, 344, 123, 261, 285, 281, 283, 221, 629, 630, 631, 64, 632, 633, 635, 19, 636, 284, 229, 224, 280, 286, 220, 637, 639, 20, 640, 287, 641, 642, 643, 63, 644, 260, 256, 252, 645, 647, 21, 648, 288, 649, 651, 22, 652, 653, 655, 23, 656, 657, 658, 73, 659, 660, 661, 662, 663, 664, 74, 665, 666, 667, 668, 669, 671, 24, 672, 282, 677, 673, 675, 25, 676, 678, 679, 680, 681, 682, 683, 684, 612, 614, 18, 58, 615, 259, 227, 616, 617, 618, 619, 543, 544, 545, 62, 546, 228, 685, 686, 687, 688, 254, 258, 689, 691, 26, 692] (by decide +kernel) (by decide +kernel)
theorem ggT_X7_feast : GoodIn lw_tbl wsX7_feast := (goodIn_ca (goodIn_ca (goodIn_ca (goodIn_ca (goodIn_ca ggT_X7_feast_0 (goodIn_sub inTX7 okTX7)) (goodIn_sub inTX5 okTX5)) (goodIn_sub inTX6 okTX6)) (goodIn_sub inTX2 okTX2)) (goodIn_sub inTX1 okTX1))
set_option maxRecDepth 20000 in
theorem gT_X7_feast : GoodIn lw_tbl (wsV RL 62 RX7 yX7_feast wsX7_feast) := goodIn_app (goodIn_r _ [625, 626, 627, 58] (by decide +kernel) (by decide +kernel)) ggT_X7_feast
set_option maxRecDepth 20000 in
theorem ggT_X8_feast_0 : GoodIn lw_tbl (.code yX8_feast cX8_feast 7 (some .int) :: ((wsX8_feast_r1 ++ wsX8_feast_r2))) := goodIn_r _ [1103, 852, 896, 868, 873, 895, 898, 897, 874, 899, 877, 878, 875, 871, 876, 1104, 1106, 47, 66, 1107, 1108, 1110, 48, 1111, 859, 1112, 1114, 49, 1115, 1116, 1118, 50, 1119] (by decide +kernel) (by decide +kernel)
theorem ggT_X8_feast : GoodIn lw_tbl wsX8_feast := (goodIn_ca ggT_X8_feast_0 (goodIn_sub inTX8 okTX8))
set_option maxRecDepth 20000 in
theorem gT_X8_feast : GoodIn lw_tbl (wsV RL 65 RX8 yX8_feast wsX8_feast) := goodIn_app (goodIn_r _ [1100, 1101, 1102, 66] (by decide +kernel) (by decide +kernel)) ggT_X8_feast
set_option maxRecDepth 20000 in
theorem ggT_X7_legacy_0 : GoodIn lw_tbl (.code yX7_legacy cX7_legacy 3 (some .int) :: ([.fieldLink RX7 54 "BlueCoats" "chest" "LBlueCoats$Chest;", .methodLink RX7 214 yX0_add, .instanceMethod yX0_add, .selects RX0 yX0_add yX0_add, .initialized RX0, .code yX0_add cX0_add 3 (some .int), .fieldLink RX0 30 "BlueCoats$Chest" "number" "I", .fieldLink RX0 21 "BlueCoats$Chest" "coins" "[I", .fieldLink RX0 24 "BlueCoats$Chest" "ends" "[I"])) := goodIn_r _ [696, 349, 697, 698, 699, 65, 700, 315, 321, 322] (by decide +kernel) (by decide +kernel)
theorem ggT_X7_legacy : GoodIn lw_tbl wsX7_legacy := (goodIn_ca (goodIn_ca ggT_X7_legacy_0 (goodIn_sub inTX7 okTX7)) (goodIn_sub inTX0 okTX0))
set_option maxRecDepth 20000 in
theorem gT_X7_legacy : GoodIn lw_tbl (wsV RL 66 RX7 yX7_legacy wsX7_legacy) := goodIn_app (goodIn_r _ [693, 694, 695, 58] (by decide +kernel) (by decide +kernel)) ggT_X7_legacy
set_option maxRecDepth 20000 in
theorem ggT_X8_legacy_0 : GoodIn lw_tbl (.code yX8_legacy cX8_legacy 3 (some .int) :: ([.fieldLink RX8 112 "BlueCoatsModel" "thrown" "I", .fieldLink RX8 229 "BlueCoatsModel" "legacies" "I", .fieldLink RX8 75 "BlueCoatsModel" "coins" "[I", .fieldLink RX8 78 "BlueCoatsModel" "ends" "[I"])) := goodIn_r _ [1123, 852, 880, 881, 882] (by decide +kernel) (by decide +kernel)
theorem ggT_X8_legacy : GoodIn lw_tbl wsX8_legacy := (goodIn_ca ggT_X8_legacy_0 (goodIn_sub inTX8 okTX8))
set_option maxRecDepth 20000 in
theorem gT_X8_legacy : GoodIn lw_tbl (wsV RL 69 RX8 yX8_legacy wsX8_legacy) := goodIn_app (goodIn_r _ [1120, 1121, 1122, 66] (by decide +kernel) (by decide +kernel)) ggT_X8_legacy
set_option maxRecDepth 20000 in
theorem ggT_X7_need_0 : GoodIn lw_tbl (.code yX7_need cX7_need 3 (some .boolean) :: ([.fieldLink RX7 54 "BlueCoats" "chest" "LBlueCoats$Chest;", .fieldLink RX7 216 "BlueCoats$Chest" "need" "[I"])) := goodIn_r _ [704, 349, 310] (by decide +kernel) (by decide +kernel)
theorem ggT_X7_need : GoodIn lw_tbl wsX7_need := (goodIn_ca (goodIn_ca ggT_X7_need_0 (goodIn_sub inTX7 okTX7)) (goodIn_sub inTX0 okTX0))
set_option maxRecDepth 20000 in
theorem gT_X7_need : GoodIn lw_tbl (wsV RL 70 RX7 yX7_need wsX7_need) := goodIn_app (goodIn_r _ [701, 702, 703, 58] (by decide +kernel) (by decide +kernel)) ggT_X7_need
set_option maxRecDepth 20000 in
theorem ggT_X8_need_0 : GoodIn lw_tbl (.code yX8_need cX8_need 3 (some .boolean) :: ([.fieldLink RX8 112 "BlueCoatsModel" "thrown" "I", .fieldLink RX8 81 "BlueCoatsModel" "needs" "[I"])) := goodIn_r _ [1127, 852, 883] (by decide +kernel) (by decide +kernel)
theorem ggT_X8_need : GoodIn lw_tbl wsX8_need := (goodIn_ca ggT_X8_need_0 (goodIn_sub inTX8 okTX8))
set_option maxRecDepth 20000 in
theorem gT_X8_need : GoodIn lw_tbl (wsV RL 73 RX8 yX8_need wsX8_need) := goodIn_app (goodIn_r _ [1124, 1125, 1126, 66] (by decide +kernel) (by decide +kernel)) ggT_X8_need
set_option maxRecDepth 20000 in
theorem ggT_X7_owed_0 : GoodIn lw_tbl (.code yX7_owed cX7_owed 3 (some .int) :: ((wsX7_owed_r1 ++ wsX7_owed_r2))) := goodIn_r _ [708, 349, 312, 316, 314, 318, 320, 709, 710, 711, 65, 712, 713, 715, 27, 716, 309, 315, 317, 319, 323, 311, 717, 719, 28, 720, 721, 723, 29, 724, 322, 321, 725, 727, 30, 728, 313, 729, 731, 31, 732, 733, 734, 67, 735] (by decide +kernel) (by decide +kernel)
theorem ggT_X7_owed : GoodIn lw_tbl wsX7_owed := (goodIn_ca (goodIn_ca ggT_X7_owed_0 (goodIn_sub inTX7 okTX7)) (goodIn_sub inTX0 okTX0))
set_option maxRecDepth 20000 in
theorem gT_X7_owed : GoodIn lw_tbl (wsV RL 74 RX7 yX7_owed wsX7_owed) := goodIn_app (goodIn_r _ [705, 706, 707, 58] (by decide +kernel) (by decide +kernel)) ggT_X7_owed
set_option maxRecDepth 20000 in
theorem ggT_X8_owed_0 : GoodIn lw_tbl (.code yX8_owed cX8_owed 5 (some .int) :: ([.fieldLink RX8 112 "BlueCoatsModel" "thrown" "I", .fieldLink RX8 106 "BlueCoatsModel" "gets" "[I", .fieldLink RX8 229 "BlueCoatsModel" "legacies" "I", .fieldLink RX8 109 "BlueCoatsModel" "pays" "[I", .methodLink RX8 238 yX8_deal, .instanceMethod yX8_deal, .selects RX8 yX8_deal yX8_deal, .initialized RX8, .code yX8_deal cX8_deal 7 none, .fieldLink RX8 81 "BlueCoatsModel" "needs" "[I", .fieldLink RX8 75 "BlueCoatsModel" "coins" "[I", .fieldLink RX8 78 "BlueCoatsModel" "ends" "[I", .methodLink RX8 232 yX8_coinsFor, .instanceMethod yX8_coinsFor, .selects RX8 yX8_coinsFor yX8_coinsFor, .code yX8_coinsFor cX8_coinsFor 4 (some .int), .methodLink RX8 241 yX8_shortage, .instanceMethod yX8_shortage, .selects RX8 yX8_shortage yX8_shortage, .code yX8_shortage cX8_shortage 4 (some .int), .methodLink RX8 235 yX8_needOf, .instanceMethod yX8_needOf, .selects RX8 yX8_needOf yX8_needOf, .code yX8_needOf cX8_needOf 4 (some .int)])) := goodIn_r _ [1131, 852, 900, 880, 901, 1132, 1134, 51, 66, 1135, 883, 881, 882, 1136, 1138, 52, 1139, 1140, 1142, 53, 1143, 1144, 1146, 54, 1147] (by decide +kernel) (by decide +kernel)
theorem ggT_X8_owed : GoodIn lw_tbl wsX8_owed := (goodIn_ca ggT_X8_owed_0 (goodIn_sub inTX8 okTX8))
set_option maxRecDepth 20000 in
theorem gT_X8_owed : GoodIn lw_tbl (wsV RL 77 RX8 yX8_owed wsX8_owed) := goodIn_app (goodIn_r _ [1128, 1129, 1130, 66] (by decide +kernel) (by decide +kernel)) ggT_X8_owed
set_option maxRecDepth 20000 in
theorem ggT_X7_pay_0 : GoodIn lw_tbl (.code yX7_pay cX7_pay 1 (some .int) :: ((wsX7_pay_r1 ++ wsX7_pay_r2))) := goodIn_r _ [739, 349, 709, 710, 711, 65, 712, 713, 715, 27, 716, 309, 315, 317, 319, 323, 311, 717, 719, 28, 720, 721, 723, 29, 724, 322, 321, 725, 727, 30, 728, 313, 729, 731, 31, 732, 733, 734, 67, 735, 740, 741, 742, 743] (by decide +kernel) (by decide +kernel)
theorem ggT_X7_pay : GoodIn lw_tbl wsX7_pay := (goodIn_ca (goodIn_ca ggT_X7_pay_0 (goodIn_sub inTX7 okTX7)) (goodIn_sub inTX0 okTX0))
set_option maxRecDepth 20000 in
theorem gT_X7_pay : GoodIn lw_tbl (wsV RL 78 RX7 yX7_pay wsX7_pay) := goodIn_app (goodIn_r _ [736, 737, 738, 58] (by decide +kernel) (by decide +kernel)) ggT_X7_pay
set_option maxRecDepth 20000 in
theorem ggT_X8_pay_0 : GoodIn lw_tbl (.code yX8_pay cX8_pay 3 (some .int) :: ([.fieldLink RX8 112 "BlueCoatsModel" "thrown" "I", .fieldLink RX8 81 "BlueCoatsModel" "needs" "[I", .fieldLink RX8 106 "BlueCoatsModel" "gets" "[I", .fieldLink RX8 229 "BlueCoatsModel" "legacies" "I", .fieldLink RX8 75 "BlueCoatsModel" "coins" "[I", .fieldLink RX8 109 "BlueCoatsModel" "pays" "[I", .methodLink RX8 238 yX8_deal, .instanceMethod yX8_deal, .selects RX8 yX8_deal yX8_deal, .initialized RX8, .code yX8_deal cX8_deal 7 none, .fieldLink RX8 78 "BlueCoatsModel" "ends" "[I", .methodLink RX8 232 yX8_coinsFor, .instanceMethod yX8_coinsFor, .selects RX8 yX8_coinsFor yX8_coinsFor, .code yX8_coinsFor cX8_coinsFor 4 (some .int)])) := goodIn_r _ [1151, 852, 883, 900, 880, 881, 901, 1132, 1134, 51, 66, 1135, 882, 1136, 1138, 52, 1139] (by decide +kernel) (by decide +kernel)
theorem ggT_X8_pay : GoodIn lw_tbl wsX8_pay := (goodIn_ca ggT_X8_pay_0 (goodIn_sub inTX8 okTX8))
set_option maxRecDepth 20000 in
theorem gT_X8_pay : GoodIn lw_tbl (wsV RL 81 RX8 yX8_pay wsX8_pay) := goodIn_app (goodIn_r _ [1148, 1149, 1150, 66] (by decide +kernel) (by decide +kernel)) ggT_X8_pay
set_option maxRecDepth 20000 in
theorem ggT_X8_look_0 : GoodIn lw_tbl (.code yX8_look cX8_look 3 (some .int) :: ((wsX8_look_r1 ++ wsX8_look_r2))) := goodIn_r _ [1155, 852, 869, 870, 871, 873, 1064, 1066, 41, 66, 1067, 868, 1156, 1158, 55, 1159, 1160, 1162, 56, 1163, 874, 878, 1088, 1090, 45, 1091, 864, 866, 865, 855] (by decide +kernel) (by decide +kernel)
theorem ggT_X8_look : GoodIn lw_tbl wsX8_look := (goodIn_ca ggT_X8_look_0 (goodIn_sub inTX8 okTX8))
set_option maxRecDepth 20000 in
theorem gT_X8_look : GoodIn lw_tbl (wsV RL 87 RX8 yX8_look wsX8_look) := goodIn_app (goodIn_r _ [1152, 1153, 1154, 66] (by decide +kernel) (by decide +kernel)) ggT_X8_look
set_option maxRecDepth 20000 in
theorem ggT_X7_coat_0 : GoodIn lw_tbl (.code yX7_coat cX7_coat 3 (some .int) :: ([.fieldLink RX7 40 "BlueCoats" "wardrobe" "LBlueCoats$Wardrobe;", .fieldLink RX7 247 "BlueCoats$Wardrobe" "size" "[I", .fieldLink RX7 248 "BlueCoats$Wardrobe" "worn" "[I", .fieldLink RX7 251 "BlueCoats$Wardrobe" "gone" "[Z", .fieldLink RX7 182 "BlueCoats$Wardrobe" "wearer" "[I", .methodLink RX7 181 yX6_has, .instanceMethod yX6_has, .selects RX6 yX6_has yX6_has, .initialized RX6, .code yX6_has cX6_has 2 (some .boolean), .fieldLink RX6 25 "BlueCoats$Wardrobe" "number" "I"])) := goodIn_r _ [747, 347, 253, 255, 257, 259, 616, 617, 618, 63, 619, 260] (by decide +kernel) (by decide +kernel)
theorem ggT_X7_coat : GoodIn lw_tbl wsX7_coat := (goodIn_ca (goodIn_ca ggT_X7_coat_0 (goodIn_sub inTX7 okTX7)) (goodIn_sub inTX6 okTX6))
set_option maxRecDepth 20000 in
theorem gT_X7_coat : GoodIn lw_tbl (wsV RL 88 RX7 yX7_coat wsX7_coat) := goodIn_app (goodIn_r _ [744, 745, 746, 58] (by decide +kernel) (by decide +kernel)) ggT_X7_coat
set_option maxRecDepth 20000 in
theorem ggT_X8_coat_0 : GoodIn lw_tbl (.code yX8_coat cX8_coat 3 (some .int) :: ([.fieldLink RX8 112 "BlueCoatsModel" "thrown" "I", .fieldLink RX8 210 "BlueCoatsModel" "coats" "I", .fieldLink RX8 62 "BlueCoatsModel" "coatSize" "[I", .fieldLink RX8 65 "BlueCoatsModel" "worn" "[I", .fieldLink RX8 68 "BlueCoatsModel" "gone" "[Z", .fieldLink RX8 72 "BlueCoatsModel" "wearer" "[I"])) := goodIn_r _ [1167, 852, 874, 875, 876, 877, 878] (by decide +kernel) (by decide +kernel)
theorem ggT_X8_coat : GoodIn lw_tbl wsX8_coat := (goodIn_ca ggT_X8_coat_0 (goodIn_sub inTX8 okTX8))
set_option maxRecDepth 20000 in
theorem gT_X8_coat : GoodIn lw_tbl (wsV RL 91 RX8 yX8_coat wsX8_coat) := goodIn_app (goodIn_r _ [1164, 1165, 1166, 66] (by decide +kernel) (by decide +kernel)) ggT_X8_coat
set_option maxRecDepth 20000 in
theorem ggT_X7_count_0 : GoodIn lw_tbl (.code yX7_count cX7_count 2 (some .int) :: ((wsX7_count_r1 ++ wsX7_count_r2))) := goodIn_r _ [751, 345, 198, 346, 230, 347, 261, 349, 316, 199, 344, 350, 562, 563, 564, 62, 565, 228, 223, 566, 567, 568, 60, 569, 108, 104] (by decide +kernel) (by decide +kernel)
theorem ggT_X7_count : GoodIn lw_tbl wsX7_count := (goodIn_ca (goodIn_ca (goodIn_ca (goodIn_ca (goodIn_ca (goodIn_ca ggT_X7_count_0 (goodIn_sub inTX7 okTX7)) (goodIn_sub inTX3 okTX3)) (goodIn_sub inTX1 okTX1)) (goodIn_sub inTX6 okTX6)) (goodIn_sub inTX0 okTX0)) (goodIn_sub inTX5 okTX5))
set_option maxRecDepth 20000 in
theorem gT_X7_count : GoodIn lw_tbl (wsV RL 92 RX7 yX7_count wsX7_count) := goodIn_app (goodIn_r _ [748, 749, 750, 58] (by decide +kernel) (by decide +kernel)) ggT_X7_count
set_option maxRecDepth 20000 in
theorem ggT_X8_count_0 : GoodIn lw_tbl (.code yX8_count cX8_count 2 (some .int) :: ([.fieldLink RX8 112 "BlueCoatsModel" "thrown" "I", .fieldLink RX8 177 "BlueCoatsModel" "givers" "I", .fieldLink RX8 180 "BlueCoatsModel" "children" "I", .fieldLink RX8 210 "BlueCoatsModel" "coats" "I", .fieldLink RX8 229 "BlueCoatsModel" "legacies" "I", .fieldLink RX8 190 "BlueCoatsModel" "giverNext" "I", .fieldLink RX8 13 "BlueCoatsModel" "cycle" "[I", .fieldLink RX8 174 "BlueCoatsModel" "cycleNext" "I", .fieldLink RX8 207 "BlueCoatsModel" "years" "I", .methodLink RX8 200 yX8_inMany, .instanceMethod yX8_inMany, .selects RX8 yX8_inMany yX8_inMany, .initialized RX8, .code yX8_inMany cX8_inMany 3 (some .int), .fieldLink RX8 59 "BlueCoatsModel" "state" "[I"])) := goodIn_r _ [1171, 852, 864, 868, 874, 880, 867, 853, 861, 879, 1076, 1078, 42, 66, 1079, 873] (by decide +kernel) (by decide +kernel)
theorem ggT_X8_count : GoodIn lw_tbl wsX8_count := (goodIn_ca ggT_X8_count_0 (goodIn_sub inTX8 okTX8))
set_option maxRecDepth 20000 in
theorem gT_X8_count : GoodIn lw_tbl (wsV RL 95 RX8 yX8_count wsX8_count) := goodIn_app (goodIn_r _ [1168, 1169, 1170, 66] (by decide +kernel) (by decide +kernel)) ggT_X8_count
def wsLkX : List Cond := .code yX7_look cX7_look 3 (some .int) :: ((wsX7_look_r1 ++ wsX7_look_r2) ++ wsX70 ++ wsX10 ++ wsX50 ++ wsX30 ++ (vx_atS RX7 239 "java/lang/IndexOutOfBoundsException" ["java/lang/RuntimeException", "java/lang/Exception"]).filter goodWord ++ ((nsAt RX7 246).filter vx_no).filter goodWord)
def wsLkL : List Cond := .codeWith yL_look cL_look 5 (some .int) [(0, 10, 13, 13), (0, 10, 17, 15)] :: ((wsL_look_r1 ++ wsL_look_r2) ++ wsX70 ++ wsX10 ++ wsX50 ++ wsX30 ++ (vx_atS RX7 239 "java/lang/IndexOutOfBoundsException" ["java/lang/RuntimeException", "java/lang/Exception"]).filter goodWord ++ ((nsAt RX7 246).filter vx_no).filter goodWord)
theorem mT_x0 : ∀ w ∈ (vx_atS RX7 239 "java/lang/IndexOutOfBoundsException" ["java/lang/RuntimeException", "java/lang/Exception"]).filter goodWord, w ∈ lw_tbl := by decide +kernel
theorem oT_x0 : ((vx_atS RX7 239 "java/lang/IndexOutOfBoundsException" ["java/lang/RuntimeException", "java/lang/Exception"]).filter goodWord).all goodWord = true := by decide +kernel
theorem mT_x1 : ∀ w ∈ ((nsAt RX7 246).filter vx_no).filter goodWord, w ∈ lw_tbl := by decide +kernel
theorem oT_x1 : (((nsAt RX7 246).filter vx_no).filter goodWord).all goodWord = true := by decide +kernel
set_option maxRecDepth 20000 in
theorem ggT_Lk0 : GoodIn lw_tbl (.codeWith yL_look cL_look 5 (some .int) [(0, 10, 13, 13), (0, 10, 17, 15)] :: ((wsL_look_r1 ++ wsL_look_r2))) := goodIn_r _ [754, 755, 756, 757, 758, 759, 58, 760, 761, 78, 827, 79, 346, 216, 218, 221, 225, 227, 345, 344, 111, 543, 544, 545, 62, 546, 228, 590, 591, 592, 61, 593, 197, 195, 194] (by decide +kernel) (by decide +kernel)
theorem ggT_Lk : GoodIn lw_tbl wsLkL := goodIn_ca (goodIn_ca (goodIn_ca (goodIn_ca (goodIn_ca (goodIn_ca ggT_Lk0 (goodIn_sub inTX7 okTX7)) (goodIn_sub inTX1 okTX1)) (goodIn_sub inTX5 okTX5)) (goodIn_sub inTX3 okTX3)) (goodIn_sub mT_x0 oT_x0)) (goodIn_sub mT_x1 oT_x1)
set_option maxRecDepth 20000 in
theorem gT_L_look : GoodIn lw_tbl (va_wsS RL 82 yL_look wsLkL) := goodIn_app (goodIn_r _ [752, 753, 57] (by decide +kernel) (by decide +kernel)) ggT_Lk
set_option maxRecDepth 20000 in
theorem gLk0 : GoodIn wsLkL (.code yX7_look cX7_look 3 (some .int) :: ((wsX7_look_r1 ++ wsX7_look_r2) ++ wsX70 ++ wsX10 ++ wsX50 ++ wsX30)) := goodIn_r _ [7, 8, 9, 10, 11, 12, 13, 14, 15, 16, 17, 18, 19, 20, 21, 22, 23, 24, 25, 26, 27, 28, 29, 30, 31, 32, 33, 34, 35, 36, 37, 38, 39, 40, 41, 42, 43, 44, 45, 46, 47, 48, 49, 50, 51, 52, 53, 54, 55, 56, 57, 58, 59, 60, 61, 62] (by decide +kernel) (by decide +kernel)
theorem inF1 : ∀ w ∈ (vx_atS RX7 239 "java/lang/IndexOutOfBoundsException" ["java/lang/RuntimeException", "java/lang/Exception"]).filter goodWord, w ∈ wsLkL := fun _ h => List.mem_cons_of_mem _ (List.mem_append_left _ (List.mem_append_right _ h))
theorem inF2 : ∀ w ∈ ((nsAt RX7 246).filter vx_no).filter goodWord, w ∈ wsLkL := fun _ h => List.mem_cons_of_mem _ (List.mem_append_right _ h)
theorem gLk1 : GoodIn wsLkL wsLkX := goodIn_ca (goodIn_ca gLk0 (goodIn_sub inF1 oT_x0)) (goodIn_sub inF2 oT_x1)
set_option maxRecDepth 20000 in
theorem gLk : GoodIn wsLkL (wsV RL 7 RX7 yX7_look wsLkX) := goodIn_app (goodIn_r _ [3, 4, 5, 6] (by decide +kernel) (by decide +kernel)) gLk1
set_option maxRecDepth 20000 in
theorem gLkh : GoodIn wsLkX (wsV RX7 98 RX1 yX1_has wsX1_has) := goodIn_r _ [14, 15, 16, 17, 18, 19, 36, 37, 38, 39, 40, 41, 42] (by decide +kernel) (by decide +kernel)
set_option maxRecDepth 20000 in
theorem gLkv : GoodIn wsLkX (wsV RX7 149 RX3 yX3_votesFor wsX3_votesFor) := goodIn_r _ [20, 21, 22, 23, 24, 25, 26, 27, 52, 53, 54, 55] (by decide +kernel) (by decide +kernel)
