set_option maxRecDepth 20000 in
theorem ggL_law_X7_block : GoodIn wsL_law wsX7_block := goodIn_r _ [541, 74, 174, 175, 5, 176, 168, 169, 170, 189, 190, 191, 192, 193, 1016, 1017, 1018, 1019, 1020, 1021, 1022, 1023, 1024, 1025, 1026, 1027, 1028, 1029] (by decide +kernel) (by decide +kernel)
set_option maxRecDepth 20000 in
theorem gL_law_X7_block : GoodIn wsL_law (wsV RL 126 RX7 yX7_block wsX7_block) := goodIn_app (goodIn_of _ (by decide +kernel)) ggL_law_X7_block
set_option maxRecDepth 20000 in
theorem ggL_law_L_orderOf : GoodIn wsL_law wsL_orderOf := goodIn_ca (goodIn_ca (goodIn_ca (goodIn_r _ [544, 238, 85, 545, 546, 547, 2, 548, 16, 549, 550, 551, 15, 552, 39, 115, 116, 117, 118, 119, 120, 121, 122, 123, 553, 319, 320, 97, 98, 99, 554, 108, 109, 110, 33, 1010, 1011, 1012, 1013, 1014, 1015, 1030, 1031, 1032, 1033, 1034, 1035, 1036, 1037] (by decide +kernel) (by decide +kernel)) (goodIn_sub (fun _ h => List.mem_append_left _ (List.mem_append_left _ (List.mem_append_right _ h))) (by decide +kernel))) (goodIn_sub (fun _ h => List.mem_append_left _ (List.mem_append_right _ h)) (by decide +kernel))) (goodIn_sub (fun _ h => List.mem_append_right _ h) (by decide +kernel))
set_option maxRecDepth 20000 in
theorem gL_law_L_orderOf : GoodIn wsL_law (va_wsS RL 127 yL_orderOf wsL_orderOf) := goodIn_app (goodIn_of _ (by decide +kernel)) ggL_law_L_orderOf
set_option maxRecDepth 20000 in
theorem ggL_law_X7_orderOf : GoodIn wsL_law wsX7_orderOf := goodIn_r _ [558, 559, 560, 561, 5, 562, 74, 168, 169, 170, 189, 190, 191, 192, 193, 181, 182, 183, 184, 1016, 1017, 1018, 1019, 1020, 1021, 1022, 1023, 1024, 1025, 1026, 1027, 1028, 1029] (by decide +kernel) (by decide +kernel)
set_option maxRecDepth 20000 in
theorem gL_law_X7_orderOf : GoodIn wsL_law (wsV RL 129 RX7 yX7_orderOf wsX7_orderOf) := goodIn_app (goodIn_of _ (by decide +kernel)) ggL_law_X7_orderOf
set_option maxRecDepth 20000 in
theorem ggL_law_L_orderWith : GoodIn wsL_law wsL_orderWith := goodIn_ca (goodIn_ca (goodIn_ca (goodIn_r _ [565, 85, 566, 567, 568, 2, 569, 16, 570, 95, 96, 97, 98, 99, 115, 116, 117, 118, 119, 120, 121, 122, 123, 571, 104, 105, 15, 106, 39, 107, 108, 109, 110, 33, 1010, 1011, 1012, 1013, 1014, 1015, 1030, 1031, 1032, 1033, 1034, 1035, 1036, 1037] (by decide +kernel) (by decide +kernel)) (goodIn_sub (fun _ h => List.mem_append_left _ (List.mem_append_left _ (List.mem_append_right _ h))) (by decide +kernel))) (goodIn_sub (fun _ h => List.mem_append_left _ (List.mem_append_right _ h)) (by decide +kernel))) (goodIn_sub (fun _ h => List.mem_append_right _ h) (by decide +kernel))
set_option maxRecDepth 20000 in
theorem gL_law_L_orderWith : GoodIn wsL_law (va_wsS RL 130 yL_orderWith wsL_orderWith) := goodIn_app (goodIn_of _ (by decide +kernel)) ggL_law_L_orderWith
set_option maxRecDepth 20000 in
theorem ggL_law_X7_orderWith : GoodIn wsL_law wsX7_orderWith := goodIn_r _ [575, 165, 166, 5, 167, 168, 169, 170, 189, 190, 191, 192, 193, 177, 178, 179, 180, 74, 181, 182, 183, 184, 1016, 1017, 1018, 1019, 1020, 1021, 1022, 1023, 1024, 1025, 1026, 1027, 1028, 1029] (by decide +kernel) (by decide +kernel)
set_option maxRecDepth 20000 in
theorem gL_law_X7_orderWith : GoodIn wsL_law (wsV RL 132 RX7 yX7_orderWith wsX7_orderWith) := goodIn_app (goodIn_of _ (by decide +kernel)) ggL_law_X7_orderWith
set_option maxRecDepth 20000 in
theorem ggL_law_L_controller : GoodIn wsL_law wsL_controller := goodIn_ca (goodIn_ca (goodIn_ca (goodIn_r _ [578, 238, 85, 579, 580, 581, 2, 582, 16, 505, 248, 249, 97, 98, 99, 115, 116, 117, 118, 119, 120, 121, 122, 123, 553, 319, 320, 583, 584, 585, 15, 586, 254, 255, 256, 257, 39, 258, 259, 260, 261, 40, 153, 154, 155, 156, 37, 38, 262, 263, 264, 36, 265, 49, 107, 108, 109, 110, 33, 587, 588, 589, 590, 46, 47, 48, 50, 51, 52, 53, 591, 512, 513, 514, 515, 516, 517, 518, 519, 520, 521, 1010, 1011, 1012, 1013, 1014, 1015, 1030, 1031, 1032, 1033, 1034, 1035, 1036, 1037, 1046, 1047, 1048, 1049, 1050, 1051, 1052, 1053] (by decide +kernel) (by decide +kernel)) (goodIn_sub (fun _ h => List.mem_append_left _ (List.mem_append_left _ (List.mem_append_right _ h))) (by decide +kernel))) (goodIn_sub (fun _ h => List.mem_append_left _ (List.mem_append_right _ h)) (by decide +kernel))) (goodIn_sub (fun _ h => List.mem_append_right _ h) (by decide +kernel))
set_option maxRecDepth 20000 in
theorem gL_law_L_controller : GoodIn wsL_law (va_wsS RL 133 yL_controller wsL_controller) := goodIn_app (goodIn_of _ (by decide +kernel)) ggL_law_L_controller
set_option maxRecDepth 20000 in
theorem ggL_law_X7_controller : GoodIn wsL_law wsX7_controller := goodIn_r _ [595, 274, 275, 5, 276, 168, 169, 170, 189, 190, 191, 192, 193, 204, 205, 206, 207, 74, 277, 278, 279, 280, 281, 282, 283, 284, 285, 286, 287, 288, 181, 182, 183, 184, 1016, 1017, 1018, 1019, 1020, 1021, 1022, 1023, 1024, 1025, 1026, 1027, 1028, 1029] (by decide +kernel) (by decide +kernel)
set_option maxRecDepth 20000 in
theorem gL_law_X7_controller : GoodIn wsL_law (wsV RL 135 RX7 yX7_controller wsX7_controller) := goodIn_app (goodIn_of _ (by decide +kernel)) ggL_law_X7_controller
set_option maxRecDepth 20000 in
theorem ggL_law_L_mail : GoodIn wsL_law wsL_mail := goodIn_ca (goodIn_ca (goodIn_ca (goodIn_r _ [598, 238, 85, 599, 600, 601, 2, 602, 16, 505, 248, 249, 97, 98, 99, 115, 116, 117, 118, 119, 120, 121, 122, 123, 603, 604, 605, 15, 606, 39, 153, 154, 155, 156, 37, 38, 262, 263, 264, 36, 265, 49, 1010, 1011, 1012, 1013, 1014, 1015, 1030, 1031, 1032, 1033, 1034, 1035, 1036, 1037, 1046, 1047, 1048, 1049, 1050, 1051, 1052, 1053] (by decide +kernel) (by decide +kernel)) (goodIn_sub (fun _ h => List.mem_append_left _ (List.mem_append_left _ (List.mem_append_right _ h))) (by decide +kernel))) (goodIn_sub (fun _ h => List.mem_append_left _ (List.mem_append_right _ h)) (by decide +kernel))) (goodIn_sub (fun _ h => List.mem_append_right _ h) (by decide +kernel))
set_option maxRecDepth 20000 in
theorem gL_law_L_mail : GoodIn wsL_law (va_wsS RL 136 yL_mail wsL_mail) := goodIn_app (goodIn_of _ (by decide +kernel)) ggL_law_L_mail
set_option maxRecDepth 20000 in
theorem ggL_law_X7_mail : GoodIn wsL_law wsX7_mail := goodIn_r _ [610, 274, 275, 5, 276, 168, 169, 170, 189, 190, 191, 192, 193, 204, 205, 206, 207, 74, 281, 282, 283, 284, 1016, 1017, 1018, 1019, 1020, 1021, 1022, 1023, 1024, 1025, 1026, 1027, 1028, 1029] (by decide +kernel) (by decide +kernel)
set_option maxRecDepth 20000 in
theorem gL_law_X7_mail : GoodIn wsL_law (wsV RL 138 RX7 yX7_mail wsX7_mail) := goodIn_app (goodIn_of _ (by decide +kernel)) ggL_law_X7_mail
set_option maxRecDepth 20000 in
theorem ggL_law_L_whole : GoodIn wsL_law wsL_whole := goodIn_ca (goodIn_ca (goodIn_ca (goodIn_r _ [613, 85, 614, 615, 616, 2, 617, 553, 319, 320, 97, 98, 99, 115, 116, 117, 118, 119, 120, 121, 122, 123, 618, 619, 620, 621, 25, 622, 16, 623, 624, 625, 15, 626, 39, 40, 41, 42, 37, 404, 38, 247, 627, 628, 629, 630, 107, 108, 109, 110, 33, 631, 632, 633, 634, 32, 382, 383, 1010, 1011, 1012, 1013, 1014, 1015, 1041, 1042, 1043, 1044, 1045, 1030, 1031, 1032, 1033, 1034, 1035, 1036, 1037, 1046, 1047, 1048, 1049, 1050, 1051, 1052, 1053] (by decide +kernel) (by decide +kernel)) (goodIn_sub (fun _ h => List.mem_append_left _ (List.mem_append_left _ (List.mem_append_right _ h))) (by decide +kernel))) (goodIn_sub (fun _ h => List.mem_append_left _ (List.mem_append_right _ h)) (by decide +kernel))) (goodIn_sub (fun _ h => List.mem_append_right _ h) (by decide +kernel))
set_option maxRecDepth 20000 in
theorem gL_law_L_whole : GoodIn wsL_law (va_wsS RL 139 yL_whole wsL_whole) := goodIn_app (goodIn_of _ (by decide +kernel)) ggL_law_L_whole
set_option maxRecDepth 20000 in
theorem ggL_law_X7_whole : GoodIn wsL_law wsX7_whole := goodIn_r _ [638, 74, 639, 168, 169, 5, 170, 189, 190, 191, 192, 193, 204, 205, 206, 207, 640, 641, 642, 643, 490, 491, 492, 493, 181, 182, 183, 184, 1016, 1017, 1018, 1019, 1020, 1021, 1022, 1023, 1024, 1025, 1026, 1027, 1028, 1029] (by decide +kernel) (by decide +kernel)
set_option maxRecDepth 20000 in
theorem gL_law_X7_whole : GoodIn wsL_law (wsV RL 141 RX7 yX7_whole wsX7_whole) := goodIn_app (goodIn_of _ (by decide +kernel)) ggL_law_X7_whole
