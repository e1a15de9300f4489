set_option maxRecDepth 20000 in
theorem ggL_law_X7_finalValue : GoodIn wsL_law wsX7_finalValue := goodIn_r _ [753, 78, 74, 174, 175, 5, 176, 168, 169, 170, 189, 190, 191, 192, 193, 181, 182, 183, 184, 185, 186, 187, 188, 1016, 1017, 1018, 1019, 1020, 1021, 1022, 1023, 1024, 1025, 1026, 1027, 1028, 1029] (by decide +kernel) (by decide +kernel)
set_option maxRecDepth 20000 in
theorem gL_law_X7_finalValue : GoodIn wsL_law (wsV RL 160 RX7 yX7_finalValue wsX7_finalValue) := goodIn_app (goodIn_of _ (by decide +kernel)) ggL_law_X7_finalValue
set_option maxRecDepth 20000 in
theorem ggL_law_L_type : GoodIn wsL_law wsL_type := goodIn_ca (goodIn_ca (goodIn_ca (goodIn_r _ [756, 85, 86, 757, 758, 759, 2, 760, 25, 553, 319, 320, 97, 98, 99, 115, 116, 117, 118, 119, 120, 121, 122, 123, 761, 762, 763, 24, 764, 67, 765, 766, 767, 768, 65, 384, 385, 1010, 1011, 1012, 1013, 1014, 1015, 1041, 1042, 1043, 1044, 1045] (by decide +kernel) (by decide +kernel)) (goodIn_sub (fun _ h => List.mem_append_left _ (List.mem_append_left _ (List.mem_append_right _ h))) (by decide +kernel))) (goodIn_sub (fun _ h => List.mem_append_left _ (List.mem_append_right _ h)) (by decide +kernel))) (goodIn_sub (fun _ h => List.mem_append_right _ h) (by decide +kernel))
set_option maxRecDepth 20000 in
theorem gL_law_L_type : GoodIn wsL_law (va_wsS RL 161 yL_type wsL_type) := goodIn_app (goodIn_of _ (by decide +kernel)) ggL_law_L_type
set_option maxRecDepth 20000 in
theorem ggL_law_X7_type : GoodIn wsL_law wsX7_type := goodIn_r _ [772, 639, 79, 168, 169, 5, 170, 189, 190, 191, 192, 193, 1016, 1017, 1018, 1019, 1020, 1021, 1022, 1023, 1024, 1025, 1026, 1027, 1028, 1029] (by decide +kernel) (by decide +kernel)
set_option maxRecDepth 20000 in
theorem gL_law_X7_type : GoodIn wsL_law (wsV RL 163 RX7 yX7_type wsX7_type) := goodIn_app (goodIn_of _ (by decide +kernel)) ggL_law_X7_type
set_option maxRecDepth 20000 in
theorem ggL_law_X6_clearCommands : GoodIn wsL_law wsX6_clearCommands := goodIn_r _ [776, 25, 777, 778, 779, 24, 780, 67, 1010, 1011, 1012, 1013, 1014, 1015, 1041, 1042, 1043, 1044, 1045] (by decide +kernel) (by decide +kernel)
set_option maxRecDepth 20000 in
theorem gL_law_X6_clearCommands : GoodIn wsL_law (wsV RL 164 RX6 yX6_clearCommands wsX6_clearCommands) := goodIn_app (goodIn_of _ (by decide +kernel)) ggL_law_X6_clearCommands
set_option maxRecDepth 20000 in
theorem ggL_law_X7_clearCommands : GoodIn wsL_law wsX7_clearCommands := goodIn_r _ [784, 193, 639, 1016, 1017, 1018, 1019, 1020, 1021, 1022, 1023, 1024, 1025, 1026, 1027, 1028, 1029] (by decide +kernel) (by decide +kernel)
set_option maxRecDepth 20000 in
theorem gL_law_X7_clearCommands : GoodIn wsL_law (wsV RL 167 RX7 yX7_clearCommands wsX7_clearCommands) := goodIn_app (goodIn_of _ (by decide +kernel)) ggL_law_X7_clearCommands
set_option maxRecDepth 20000 in
theorem gc_X6_runCommands_0 : GoodIn wsL_law [.code yX6_runCommands cX6_runCommands 3 (some .int)] := goodIn_r _ [788] (by decide +kernel) (by decide +kernel)
set_option maxRecDepth 20000 in
theorem gc_X6_runCommands_1 : GoodIn wsL_law wsX6_runCommands_r1 := goodIn_r _ [25, 21, 16, 789, 790, 791, 24, 792, 68, 67, 793, 794, 795, 796, 797, 798, 799, 800, 801, 802, 803, 804, 65, 382] (by decide +kernel) (by decide +kernel)
set_option maxRecDepth 20000 in
theorem gc_X6_runCommands_2 : GoodIn wsL_law wsX6_runCommands_r2 := goodIn_r _ [2, 383, 805, 806, 807, 808, 69, 809, 810, 811, 812, 813, 814, 815, 816, 817, 818, 819, 820, 821, 822, 823, 824, 825] (by decide +kernel) (by decide +kernel)
set_option maxRecDepth 20000 in
theorem gc_X6_runCommands_3 : GoodIn wsL_law wsX6_runCommands_r3 := goodIn_r _ [826, 827, 828, 829, 830, 831, 832, 833, 834, 835, 836, 837, 838, 839, 840, 841, 842, 843, 844, 845, 846, 847, 848, 849] (by decide +kernel) (by decide +kernel)
set_option maxRecDepth 20000 in
theorem gc_X6_runCommands_4 : GoodIn wsL_law wsX6_runCommands_r4 := goodIn_r _ [850, 851, 852, 853, 854, 855, 856, 857, 858, 859, 860, 861, 862, 863, 864, 865, 866, 867, 868, 869, 870, 871, 872, 873] (by decide +kernel) (by decide +kernel)
set_option maxRecDepth 20000 in
theorem gc_X6_runCommands_5 : GoodIn wsL_law wsX6_runCommands_r5 := goodIn_r _ [874, 66, 875, 876, 877, 384, 385, 124, 125, 126, 20, 127, 61, 60, 128, 129, 130, 131, 59, 132, 133, 134, 15, 135] (by decide +kernel) (by decide +kernel)
set_option maxRecDepth 20000 in
theorem gc_X6_runCommands_6 : GoodIn wsL_law wsX6_runCommands_r6 := goodIn_r _ [32, 136, 137, 138, 139, 33, 37, 38, 39, 40, 41, 42, 140, 141, 142, 36, 143, 46, 47, 48, 49, 50, 51, 52] (by decide +kernel) (by decide +kernel)
set_option maxRecDepth 20000 in
theorem gc_X6_runCommands_7 : GoodIn wsL_law xsX6_runCommands_r7 := goodIn_r _ [53, 878, 879, 880, 881, 882, 883, 884, 885, 886, 887, 888, 889, 890, 891, 892, 893, 894, 895, 896, 897, 898, 899, 900] (by decide +kernel) (by decide +kernel)
set_option maxRecDepth 20000 in
theorem gc_X6_runCommands_8 : GoodIn wsL_law wsX6_runCommands_r8 := goodIn_r _ [91, 92, 93, 94, 95, 96, 97, 98, 99, 100, 101, 102, 103, 104, 105, 106, 107, 108, 109, 110, 111, 112, 113, 114] (by decide +kernel) (by decide +kernel)
set_option maxRecDepth 20000 in
theorem gc_X6_runCommands_9 : GoodIn wsL_law wsX6_runCommands_r9 := goodIn_r _ [223, 224, 225, 226, 243, 244, 245, 246, 247, 248, 249, 153, 154, 155, 156, 296, 297, 298, 299, 360, 361, 362, 363, 364] (by decide +kernel) (by decide +kernel)
set_option maxRecDepth 20000 in
theorem gc_X6_runCommands_10 : GoodIn wsL_law wsX6_runCommands_r10 := goodIn_r _ [315, 316, 317, 318, 319, 320, 473, 474, 475, 476, 901, 902, 903, 904, 144, 145, 146, 147, 148, 149, 150, 151, 152, 157] (by decide +kernel) (by decide +kernel)
set_option maxRecDepth 20000 in
theorem gc_X6_runCommands_11 : GoodIn wsL_law wsX6_runCommands_r11 := goodIn_r _ [158, 159, 160, 227, 228, 229, 230, 250, 251, 252, 253, 254, 255, 256, 257, 258, 259, 260, 261, 262, 263, 264, 265, 300] (by decide +kernel) (by decide +kernel)
set_option maxRecDepth 20000 in
theorem gc_X6_runCommands_12 : GoodIn wsL_law wsX6_runCommands_r12 := goodIn_r _ [301, 302, 303, 365, 366, 367, 368, 369, 370, 371, 372, 373, 374, 375, 376, 377, 378, 379, 380, 381, 386, 387, 388, 389] (by decide +kernel) (by decide +kernel)
set_option maxRecDepth 20000 in
theorem gc_X6_runCommands_13 : GoodIn wsL_law wsX6_runCommands_r13 := goodIn_r _ [390, 391, 392, 393, 394, 395, 396, 397, 398, 399, 400, 401, 402, 403, 404, 405, 406, 407, 408, 409, 410, 411, 412, 413] (by decide +kernel) (by decide +kernel)
set_option maxRecDepth 20000 in
theorem gc_X6_runCommands_14 : GoodIn wsL_law wsX6_runCommands_r14 := goodIn_r _ [414, 415, 416, 417, 418, 419, 420, 421, 321, 322, 323, 324, 477, 478, 479, 480, 481, 482, 483, 484, 485] (by decide +kernel) (by decide +kernel)
set_option maxRecDepth 20000 in
theorem gc_X6_runCommands_wsX60 : GoodIn wsL_law wsX60 := goodIn_r _ [1010, 1011, 1012, 1013, 1014, 1015] (by decide +kernel) (by decide +kernel)
set_option maxRecDepth 20000 in
theorem gc_X6_runCommands_wsX10 : GoodIn wsL_law wsX10 := goodIn_r _ [1041, 1042, 1043, 1044, 1045] (by decide +kernel) (by decide +kernel)
set_option maxRecDepth 20000 in
theorem gc_X6_runCommands_wsX40 : GoodIn wsL_law wsX40 := goodIn_r _ [1038, 1039, 1040] (by decide +kernel) (by decide +kernel)
set_option maxRecDepth 20000 in
theorem gc_X6_runCommands_wsX30 : GoodIn wsL_law wsX30 := goodIn_r _ [1030, 1031, 1032, 1033, 1034, 1035, 1036, 1037] (by decide +kernel) (by decide +kernel)
set_option maxRecDepth 20000 in
theorem gc_X6_runCommands_wsX20 : GoodIn wsL_law wsX20 := goodIn_r _ [1046, 1047, 1048, 1049, 1050, 1051, 1052, 1053] (by decide +kernel) (by decide +kernel)
theorem ggL_law_X6_runCommands : GoodIn wsL_law xsX6_runCommands := by
  have h : GoodIn wsL_law (([.code yX6_runCommands cX6_runCommands 3 (some .int)] : List Cond) ++ ((wsX6_runCommands_r1 ++ (wsX6_runCommands_r2 ++ (wsX6_runCommands_r3 ++ (wsX6_runCommands_r4 ++ (wsX6_runCommands_r5 ++ (wsX6_runCommands_r6 ++ (xsX6_runCommands_r7 ++ (wsX6_runCommands_r8 ++ (wsX6_runCommands_r9 ++ (wsX6_runCommands_r10 ++ (wsX6_runCommands_r11 ++ (wsX6_runCommands_r12 ++ (wsX6_runCommands_r13 ++ wsX6_runCommands_r14))))))))))))) ++ wsX60 ++ wsX10 ++ wsX40 ++ wsX30 ++ wsX20)) := goodIn_app gc_X6_runCommands_0 (goodIn_app (goodIn_app (goodIn_app (goodIn_app (goodIn_app (goodIn_app gc_X6_runCommands_1 (goodIn_app gc_X6_runCommands_2 (goodIn_app gc_X6_runCommands_3 (goodIn_app gc_X6_runCommands_4 (goodIn_app gc_X6_runCommands_5 (goodIn_app gc_X6_runCommands_6 (goodIn_app gc_X6_runCommands_7 (goodIn_app gc_X6_runCommands_8 (goodIn_app gc_X6_runCommands_9 (goodIn_app gc_X6_runCommands_10 (goodIn_app gc_X6_runCommands_11 (goodIn_app gc_X6_runCommands_12 (goodIn_app gc_X6_runCommands_13 gc_X6_runCommands_14))))))))))))) gc_X6_runCommands_wsX60) gc_X6_runCommands_wsX10) gc_X6_runCommands_wsX40) gc_X6_runCommands_wsX30) gc_X6_runCommands_wsX20)
  exact h
set_option maxRecDepth 20000 in
theorem gL_law_X6_runCommands : GoodIn wsL_law (wsV RL 168 RX6 yX6_runCommands xsX6_runCommands) := goodIn_app (goodIn_of _ (by decide +kernel)) ggL_law_X6_runCommands
set_option maxRecDepth 20000 in
theorem gc_X7_runCommands_0 : GoodIn wsL_law [.code yX7_runCommands cX7_runCommands 3 (some .int)] := goodIn_r _ [908] (by decide +kernel) (by decide +kernel)
set_option maxRecDepth 20000 in
theorem gc_X7_runCommands_1 : GoodIn wsL_law wsX7_runCommands_r1 := goodIn_r _ [193, 909, 198, 910, 639, 911, 912, 913, 5, 914, 915, 916, 917, 918, 919, 920, 921, 922, 79, 923, 924, 925, 926, 927] (by decide +kernel) (by decide +kernel)
set_option maxRecDepth 20000 in
theorem gc_X7_runCommands_2 : GoodIn wsL_law wsX7_runCommands_r2 := goodIn_r _ [168, 169, 170, 928, 929, 930, 931, 932, 933, 934, 935, 936, 937, 938, 939, 940, 941, 942, 943, 944, 945, 946, 80, 194] (by decide +kernel) (by decide +kernel)
set_option maxRecDepth 20000 in
theorem gc_X7_runCommands_3 : GoodIn wsL_law wsX7_runCommands_r3 := goodIn_r _ [195, 196, 197, 199, 75, 74, 947, 948, 949, 950, 951, 162, 163, 164, 165, 166, 167, 171, 172, 173, 174, 175, 176, 177] (by decide +kernel) (by decide +kernel)
set_option maxRecDepth 20000 in
theorem gc_X7_runCommands_4 : GoodIn wsL_law wsX7_runCommands_r4 := goodIn_r _ [178, 179, 180, 181, 182, 183, 184, 185, 186, 187, 188, 189, 190, 191, 192, 200, 201, 202, 203, 204, 205, 206, 207, 208] (by decide +kernel) (by decide +kernel)
set_option maxRecDepth 20000 in
theorem gc_X7_runCommands_5 : GoodIn wsL_law wsX7_runCommands_r5 := goodIn_r _ [209, 210, 211, 952, 232, 233, 234, 953, 267, 268, 269, 270, 271, 272, 273, 274, 275, 276, 277, 278, 279, 280, 281, 282] (by decide +kernel) (by decide +kernel)
set_option maxRecDepth 20000 in
theorem gc_X7_runCommands_6 : GoodIn wsL_law wsX7_runCommands_r6 := goodIn_r _ [283, 284, 285, 286, 287, 288, 954, 305, 306, 307, 955, 423, 424, 425, 426, 427, 428, 429, 430, 431, 432, 433, 434, 435] (by decide +kernel) (by decide +kernel)
set_option maxRecDepth 20000 in
theorem gc_X7_runCommands_7 : GoodIn wsL_law wsX7_runCommands_r7 := goodIn_r _ [436, 437, 438, 439, 440, 441, 442, 443, 444, 445, 446, 447, 448, 449, 450, 451, 452, 453, 454, 455, 456, 457, 458, 459] (by decide +kernel) (by decide +kernel)
set_option maxRecDepth 20000 in
theorem gc_X7_runCommands_8 : GoodIn wsL_law wsX7_runCommands_r8 := goodIn_r _ [460, 461, 462, 463, 464, 465, 956, 326, 327, 328, 329, 330, 331, 332, 957, 487, 488, 489, 490, 491, 492, 493, 494, 495] (by decide +kernel) (by decide +kernel)
set_option maxRecDepth 20000 in
theorem gc_X7_runCommands_9 : GoodIn wsL_law wsX7_runCommands_r9 := goodIn_r _ [496, 497] (by decide +kernel) (by decide +kernel)
set_option maxRecDepth 20000 in
theorem gc_X7_runCommands_t : GoodIn wsL_law (wsX70) := goodIn_r _ [1016, 1017, 1018, 1019, 1020, 1021, 1022, 1023, 1024, 1025, 1026, 1027, 1028, 1029] (by decide +kernel) (by decide +kernel)
theorem ggL_law_X7_runCommands : GoodIn wsL_law wsX7_runCommands := by
  have h : GoodIn wsL_law (([.code yX7_runCommands cX7_runCommands 3 (some .int)] : List Cond) ++ ((wsX7_runCommands_r1 ++ (wsX7_runCommands_r2 ++ (wsX7_runCommands_r3 ++ (wsX7_runCommands_r4 ++ (wsX7_runCommands_r5 ++ (wsX7_runCommands_r6 ++ (wsX7_runCommands_r7 ++ (wsX7_runCommands_r8 ++ wsX7_runCommands_r9)))))))) ++ (wsX70))) := goodIn_app gc_X7_runCommands_0 (goodIn_app (goodIn_app gc_X7_runCommands_1 (goodIn_app gc_X7_runCommands_2 (goodIn_app gc_X7_runCommands_3 (goodIn_app gc_X7_runCommands_4 (goodIn_app gc_X7_runCommands_5 (goodIn_app gc_X7_runCommands_6 (goodIn_app gc_X7_runCommands_7 (goodIn_app gc_X7_runCommands_8 gc_X7_runCommands_9)))))))) gc_X7_runCommands_t)
  exact h
set_option maxRecDepth 20000 in
theorem gL_law_X7_runCommands : GoodIn wsL_law (wsV RL 171 RX7 yX7_runCommands wsX7_runCommands) := goodIn_app (goodIn_of _ (by decide +kernel)) ggL_law_X7_runCommands
set_option maxRecDepth 20000 in
theorem ggL_law_L_undo : GoodIn wsL_law wsL_undo := goodIn_ca (goodIn_ca (goodIn_ca (goodIn_r _ [960, 86, 961, 962, 963, 2, 964, 21, 965, 16, 115, 116, 117, 118, 119, 120, 121, 122, 123, 966, 967, 968, 20, 969, 61, 60, 128, 129, 130, 131, 59, 132, 133, 134, 15, 135, 32, 136, 137, 138, 139, 33, 37, 38, 39, 40, 41, 42, 140, 141, 142, 36, 143, 46, 47, 48, 49, 50, 51, 52, 53, 1010, 1011, 1012, 1013, 1014, 1015, 1038, 1039, 1040, 1030, 1031, 1032, 1033, 1034, 1035, 1036, 1037, 1046, 1047, 1048, 1049, 1050, 1051, 1052, 1053] (by decide +kernel) (by decide +kernel)) (goodIn_sub (fun _ h => List.mem_append_left _ (List.mem_append_left _ (List.mem_append_right _ h))) (by decide +kernel))) (goodIn_sub (fun _ h => List.mem_append_left _ (List.mem_append_right _ h)) (by decide +kernel))) (goodIn_sub (fun _ h => List.mem_append_right _ h) (by decide +kernel))
set_option maxRecDepth 20000 in
theorem gL_law_L_undo : GoodIn wsL_law (va_wsS RL 172 yL_undo wsL_undo) := goodIn_app (goodIn_of _ (by decide +kernel)) ggL_law_L_undo
set_option maxRecDepth 20000 in
theorem ggL_law_X7_undo : GoodIn wsL_law wsX7_undo := goodIn_r _ [973, 199, 74, 75, 189, 190, 191, 5, 192, 193, 1016, 1017, 1018, 1019, 1020, 1021, 1022, 1023, 1024, 1025, 1026, 1027, 1028, 1029] (by decide +kernel) (by decide +kernel)
set_option maxRecDepth 20000 in
theorem gL_law_X7_undo : GoodIn wsL_law (wsV RL 175 RX7 yX7_undo wsX7_undo) := goodIn_app (goodIn_of _ (by decide +kernel)) ggL_law_X7_undo
set_option maxRecDepth 20000 in
theorem ggL_law_X6_digest : GoodIn wsL_law wsX6_digest := goodIn_r _ [977, 978, 21, 965, 979, 980, 2, 981, 982, 618, 619, 620, 621, 25, 622, 16, 623, 624, 625, 15, 626, 39, 40, 41, 42, 37, 404, 38, 247, 627, 628, 629, 630, 107, 108, 109, 110, 33, 631, 632, 633, 634, 32, 382, 383, 983, 984, 985, 986, 27, 533, 746, 747, 748, 749, 384, 385, 111, 112, 113, 114, 378, 379, 380, 381, 537, 987, 988, 989, 990, 28, 991, 670, 671, 672, 673, 674, 675, 676, 677, 655, 656, 657, 658, 395, 396, 397, 398, 399, 554, 651, 652, 653, 654, 992, 993, 994, 995, 583, 584, 585, 586, 254, 255, 256, 257, 258, 259, 260, 261, 153, 154, 155, 156, 262, 263, 264, 36, 265, 49, 587, 588, 589, 590, 46, 47, 48, 50, 51, 52, 53, 591, 512, 513, 514, 515, 516, 517, 518, 519, 520, 521, 996, 997, 689, 690, 691, 692, 369, 370, 371, 372, 391, 392, 393, 394, 1010, 1011, 1012, 1013, 1014, 1015, 1038, 1039, 1040, 1041, 1042, 1043, 1044, 1045, 1030, 1031, 1032, 1033, 1034, 1035, 1036, 1037, 1046, 1047, 1048, 1049, 1050, 1051, 1052, 1053] (by decide +kernel) (by decide +kernel)
set_option maxRecDepth 20000 in
theorem gL_law_X6_digest : GoodIn wsL_law (wsV RL 176 RX6 yX6_digest wsX6_digest) := goodIn_app (goodIn_of _ (by decide +kernel)) ggL_law_X6_digest
set_option maxRecDepth 20000 in
theorem ggL_law_X7_digest : GoodIn wsL_law wsX7_digest := goodIn_r _ [1001, 1002, 199, 1003, 74, 193, 1004, 636, 637, 5, 638, 639, 168, 169, 170, 189, 190, 191, 192, 204, 205, 206, 207, 640, 641, 642, 643, 490, 491, 492, 493, 181, 182, 183, 184, 1005, 539, 540, 541, 174, 175, 176, 1006, 751, 752, 753, 78, 185, 186, 187, 188, 1007, 660, 661, 662, 559, 560, 561, 562, 446, 447, 448, 449, 450, 451, 452, 453, 454, 455, 456, 457, 1008, 679, 680, 681, 77, 1009, 593, 594, 595, 274, 275, 276, 277, 278, 279, 280, 281, 282, 283, 284, 285, 286, 287, 288, 697, 698, 699, 700, 430, 431, 432, 433, 1016, 1017, 1018, 1019, 1020, 1021, 1022, 1023, 1024, 1025, 1026, 1027, 1028, 1029] (by decide +kernel) (by decide +kernel)
set_option maxRecDepth 20000 in
theorem gL_law_X7_digest : GoodIn wsL_law (wsV RL 180 RX7 yX7_digest wsX7_digest) := goodIn_app (goodIn_of _ (by decide +kernel)) ggL_law_X7_digest
