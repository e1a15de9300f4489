/-! PART 33: the law's words are the tables' -/
def wsL_law : List Cond := wsL_law0 ++ (vx_atS RX6 256 "java/lang/IndexOutOfBoundsException" ["java/lang/RuntimeException", "java/lang/Exception"]).filter goodWord ++ (vx_atS RX6 263 "java/lang/IllegalArgumentException" ["java/lang/RuntimeException", "java/lang/Exception"]).filter goodWord ++ (vx_atS RX6 268 "java/lang/IllegalStateException" ["java/lang/RuntimeException", "java/lang/Exception"]).filter goodWord
set_option maxRecDepth 20000 in
theorem wsL_g1 : GoodIn lw_tbl wsL_law0_r1 := goodIn_r _ [30, 31, 16, 32, 33, 34, 35, 36, 37, 38, 39, 17, 153, 154, 110, 111, 19, 155, 130, 131, 20, 156, 82, 157] (by decide +kernel) (by decide +kernel)
set_option maxRecDepth 20000 in
theorem wsL_g2 : GoodIn lw_tbl wsL_law0_r2 := goodIn_r _ [158, 41, 42, 43, 83, 85, 44, 45, 18, 86, 87, 88, 90, 91, 92, 47, 48, 49, 50, 52, 54, 56, 58, 60] (by decide +kernel) (by decide +kernel)
set_option maxRecDepth 20000 in
theorem wsL_g3 : GoodIn lw_tbl wsL_law0_r3 := goodIn_r _ [62, 64, 112, 113, 114, 115, 116, 119, 120, 122, 133, 134, 135, 136, 137, 138, 140, 141, 305, 306, 15, 307, 172, 173] (by decide +kernel) (by decide +kernel)
set_option maxRecDepth 20000 in
theorem wsL_g4 : GoodIn lw_tbl wsL_law0_r4 := goodIn_r _ [174, 175, 176, 121, 177, 178, 179, 180, 181, 183, 0, 184, 139, 185, 186, 187, 188, 63, 51, 189, 191, 1, 192, 193] (by decide +kernel) (by decide +kernel)
set_option maxRecDepth 20000 in
theorem wsL_g5 : GoodIn lw_tbl wsL_law0_r5 := goodIn_r _ [194, 195, 196, 197, 199, 2, 200, 202, 203, 204, 206, 3, 207, 84, 208, 209, 210, 211, 213, 214, 215, 216, 217, 218] (by decide +kernel) (by decide +kernel)
set_option maxRecDepth 20000 in
theorem wsL_g6 : GoodIn lw_tbl wsL_law0_r6 := goodIn_r _ [219, 221, 4, 222, 223, 224, 226, 5, 227, 89, 228, 229, 230, 231, 241, 242, 21, 243, 232, 233, 234, 235, 236, 237] (by decide +kernel) (by decide +kernel)
set_option maxRecDepth 20000 in
theorem wsL_g7 : GoodIn lw_tbl wsL_law0_r7 := goodIn_r _ [238, 239, 240, 244, 245, 246, 247, 248, 249, 251, 6, 252, 253, 254, 255, 256, 257, 258, 259, 260, 261, 262, 263, 264] (by decide +kernel) (by decide +kernel)
set_option maxRecDepth 20000 in
theorem wsL_g8 : GoodIn lw_tbl wsL_law0_r8 := goodIn_r _ [265, 266, 267, 268, 269, 270, 271, 272, 273, 274, 275, 276, 277, 278, 279, 280, 281, 282, 22, 283, 284, 285, 286, 287] (by decide +kernel) (by decide +kernel)
set_option maxRecDepth 20000 in
theorem wsL_g9 : GoodIn lw_tbl wsL_law0_r9 := goodIn_r _ [288, 289, 290, 291, 292, 293, 294, 295, 296, 297, 299, 7, 300, 308, 309, 310, 311, 312, 313, 314, 315, 316, 317, 318] (by decide +kernel) (by decide +kernel)
set_option maxRecDepth 20000 in
theorem wsL_g10 : GoodIn lw_tbl wsL_law0_r10 := goodIn_r _ [319, 320, 321, 322, 323, 324, 26, 392, 27, 408, 28, 424, 425, 426, 427, 428, 429, 430, 431, 432, 433, 434, 435, 436] (by decide +kernel) (by decide +kernel)
set_option maxRecDepth 20000 in
theorem wsL_g11 : GoodIn lw_tbl wsL_law0_r11 := goodIn_r _ [437, 438, 439, 440, 441, 442, 443, 444, 445, 446, 447, 448, 449, 450, 451, 452, 453, 454, 455, 456, 457, 458, 459, 460] (by decide +kernel) (by decide +kernel)
set_option maxRecDepth 20000 in
theorem wsL_g12 : GoodIn lw_tbl wsL_law0_r12 := goodIn_r _ [461, 462, 463, 464, 465, 466, 467, 468, 469, 470, 471, 472, 473, 474, 475, 476, 477, 478, 479, 480, 481, 482, 483, 484] (by decide +kernel) (by decide +kernel)
set_option maxRecDepth 20000 in
theorem wsL_g13 : GoodIn lw_tbl wsL_law0_r13 := goodIn_r _ [485, 486, 487, 488, 489, 490, 491, 492, 493, 494, 495, 496, 497, 498, 499, 500, 501, 502, 503, 504, 505, 506, 507, 508] (by decide +kernel) (by decide +kernel)
set_option maxRecDepth 20000 in
theorem wsL_g14 : GoodIn lw_tbl wsL_law0_r14 := goodIn_r _ [509, 510, 511, 513, 512, 29, 514, 515, 516, 517, 518, 519, 520, 521, 522, 523, 524, 525, 526, 527, 528, 529, 530, 531] (by decide +kernel) (by decide +kernel)
set_option maxRecDepth 20000 in
theorem wsL_g15 : GoodIn lw_tbl wsL_law0_r15 := goodIn_r _ [532, 533, 534, 536, 9, 537, 61, 538, 540, 10, 541, 59, 542, 543, 544, 545, 546, 548, 11, 549, 550, 551, 552, 553] (by decide +kernel) (by decide +kernel)
set_option maxRecDepth 20000 in
theorem wsL_g16 : GoodIn lw_tbl wsL_law0_r16 := goodIn_r _ [554, 555, 557, 12, 558, 559, 561, 13, 562, 563, 564, 565, 566, 301, 302, 303, 304, 567, 568, 569, 570, 571, 572, 573] (by decide +kernel) (by decide +kernel)
set_option maxRecDepth 20000 in
theorem wsL_g17 : GoodIn lw_tbl wsL_law0_r17 := goodIn_r _ [574, 575, 576, 577, 578, 579, 580, 581, 582, 583, 584, 585, 586, 587, 588, 589, 591, 592, 593, 595, 596, 597, 598, 599] (by decide +kernel) (by decide +kernel)
set_option maxRecDepth 20000 in
theorem wsL_g18 : GoodIn lw_tbl wsL_law0_r18 := goodIn_r _ [600, 602, 14, 603, 604, 605, 606, 607, 608, 53, 609, 610, 611, 612, 613, 614, 615, 616, 617, 618, 619, 620, 621, 622] (by decide +kernel) (by decide +kernel)
set_option maxRecDepth 20000 in
theorem wsL_g19 : GoodIn lw_tbl wsL_law0_r19 := goodIn_r _ [623, 624, 625, 626, 627, 628, 629, 630, 631, 632, 633, 634, 635, 636, 637, 638, 639, 641, 642, 643, 644, 645, 646, 647] (by decide +kernel) (by decide +kernel)
set_option maxRecDepth 20000 in
theorem wsL_g20 : GoodIn lw_tbl wsL_law0_r20 := goodIn_r _ [648, 649, 650, 651, 652, 653, 654, 655, 656, 657, 658, 659, 660, 661, 662, 663, 664, 665, 666, 667, 668, 669, 670, 672] (by decide +kernel) (by decide +kernel)
set_option maxRecDepth 20000 in
theorem wsL_g21 : GoodIn lw_tbl wsL_law0_r21 := goodIn_r _ [673, 674, 675, 676, 677, 678, 679, 680, 681, 682, 683, 684, 685, 686, 687, 688, 689, 690, 55, 691, 692, 693, 694, 695] (by decide +kernel) (by decide +kernel)
set_option maxRecDepth 20000 in
theorem wsL_g22 : GoodIn lw_tbl wsL_law0_r22 := goodIn_r _ [696, 697, 698, 699, 700, 701, 702, 703, 704, 705, 706, 707, 708, 709, 710, 711, 712, 713, 714, 715, 716, 717, 718, 719] (by decide +kernel) (by decide +kernel)
set_option maxRecDepth 20000 in
theorem wsL_g23 : GoodIn lw_tbl wsL_law0_r23 := goodIn_r _ [720, 721, 722, 723, 724, 725, 57, 726, 727, 728, 729, 730, 731, 732, 733, 734, 735, 736, 737, 738, 739, 740, 741, 742] (by decide +kernel) (by decide +kernel)
set_option maxRecDepth 20000 in
theorem wsL_g24 : GoodIn lw_tbl wsL_law0_r24 := goodIn_r _ [743, 744, 745, 746, 747, 748, 749, 750, 751, 752] (by decide +kernel) (by decide +kernel)
set_option maxRecDepth 20000 in
theorem wsL_gwsX60 : GoodIn lw_tbl wsX60 := goodIn_p _ [] (by decide +kernel) (by decide +kernel)
set_option maxRecDepth 20000 in
theorem wsL_gwsX30 : GoodIn lw_tbl wsX30 := goodIn_p _ [] (by decide +kernel) (by decide +kernel)
set_option maxRecDepth 20000 in
theorem wsL_gwsX40 : GoodIn lw_tbl wsX40 := goodIn_p _ [] (by decide +kernel) (by decide +kernel)
set_option maxRecDepth 20000 in
theorem wsL_gwsX10 : GoodIn lw_tbl wsX10 := goodIn_p _ [] (by decide +kernel) (by decide +kernel)
set_option maxRecDepth 20000 in
theorem wsL_gwsX20 : GoodIn lw_tbl wsX20 := goodIn_p _ [] (by decide +kernel) (by decide +kernel)
theorem wsL_law_in0 : ∀ w ∈ wsL_law0, w ∈ lw_tbl := fun w h => ((goodIn_app (goodIn_app (goodIn_app (goodIn_app (goodIn_app (goodIn_app (goodIn_app wsL_g1 (goodIn_app wsL_g2 (goodIn_app wsL_g3 (goodIn_app wsL_g4 (goodIn_app wsL_g5 (goodIn_app wsL_g6 (goodIn_app wsL_g7 (goodIn_app wsL_g8 (goodIn_app wsL_g9 (goodIn_app wsL_g10 (goodIn_app wsL_g11 (goodIn_app wsL_g12 (goodIn_app wsL_g13 (goodIn_app wsL_g14 (goodIn_app wsL_g15 (goodIn_app wsL_g16 (goodIn_app wsL_g17 (goodIn_app wsL_g18 (goodIn_app wsL_g19 (goodIn_app wsL_g20 (goodIn_app wsL_g21 (goodIn_app wsL_g22 (goodIn_app wsL_g23 wsL_g24))))))))))))))))))))))) wsL_gwsX60) wsL_gwsX30) wsL_gwsX40) wsL_gwsX10) wsL_gwsX20) (fun _ h => absurd h List.not_mem_nil)) w h).1
theorem wsL_law_x0 : ∀ w ∈ (vx_atS RX6 256 "java/lang/IndexOutOfBoundsException" ["java/lang/RuntimeException", "java/lang/Exception"]).filter goodWord, w ∈ lw_tbl := by decide +kernel
theorem wsL_law_x1 : ∀ w ∈ (vx_atS RX6 263 "java/lang/IllegalArgumentException" ["java/lang/RuntimeException", "java/lang/Exception"]).filter goodWord, w ∈ lw_tbl := by decide +kernel
theorem wsL_law_x2 : ∀ w ∈ (vx_atS RX6 268 "java/lang/IllegalStateException" ["java/lang/RuntimeException", "java/lang/Exception"]).filter goodWord, w ∈ lw_tbl := by decide +kernel
theorem wsL_law_in : ∀ w ∈ wsL_law, w ∈ lw_tbl := fun w h => (List.mem_append.mp h).elim (fun h => (List.mem_append.mp h).elim (fun h => (List.mem_append.mp h).elim (fun h => wsL_law_in0 w h) (fun h => wsL_law_x0 w h)) (fun h => wsL_law_x1 w h)) (fun h => wsL_law_x2 w h)
theorem inX0 : ∀ w ∈ wsX00, w ∈ lw_tbl := by decide +kernel
theorem inlX1 : ∀ w ∈ wsX10, w ∈ wsL_law := fun _ h => List.mem_append_left _ (List.mem_append_left _ (List.mem_append_left _ (List.mem_append_left _ (List.mem_append_left _ (List.mem_append_right _ h)))))
theorem inX1 : ∀ w ∈ wsX10, w ∈ lw_tbl := fun w h => wsL_law_in w (inlX1 w h)
theorem inlX2 : ∀ w ∈ wsX20, w ∈ wsL_law := fun _ h => List.mem_append_left _ (List.mem_append_left _ (List.mem_append_left _ (List.mem_append_left _ (List.mem_append_right _ h))))
theorem inX2 : ∀ w ∈ wsX20, w ∈ lw_tbl := fun w h => wsL_law_in w (inlX2 w h)
theorem inlX3 : ∀ w ∈ wsX30, w ∈ wsL_law := fun _ h => List.mem_append_left _ (List.mem_append_left _ (List.mem_append_left _ (List.mem_append_left _ (List.mem_append_left _ (List.mem_append_left _ (List.mem_append_left _ (List.mem_append_right _ h)))))))
theorem inX3 : ∀ w ∈ wsX30, w ∈ lw_tbl := fun w h => wsL_law_in w (inlX3 w h)
theorem inlX4 : ∀ w ∈ wsX40, w ∈ wsL_law := fun _ h => List.mem_append_left _ (List.mem_append_left _ (List.mem_append_left _ (List.mem_append_left _ (List.mem_append_left _ (List.mem_append_left _ (List.mem_append_right _ h))))))
theorem inX4 : ∀ w ∈ wsX40, w ∈ lw_tbl := fun w h => wsL_law_in w (inlX4 w h)
theorem inX5 : ∀ w ∈ wsX50, w ∈ lw_tbl := by decide +kernel
theorem inlX6 : ∀ w ∈ wsX60, w ∈ wsL_law := fun _ h => List.mem_append_left _ (List.mem_append_left _ (List.mem_append_left _ (List.mem_append_left _ (List.mem_append_left _ (List.mem_append_left _ (List.mem_append_left _ (List.mem_append_left _ (List.mem_append_right _ h))))))))
theorem inX6 : ∀ w ∈ wsX60, w ∈ lw_tbl := fun w h => wsL_law_in w (inlX6 w h)
theorem inX7 : ∀ w ∈ wsX70, w ∈ lw_tbl := by decide +kernel
theorem inJ13 : ∀ w ∈ wsJ130, w ∈ lw_tbl := by decide +kernel
theorem inJ9 : ∀ w ∈ wsJ90, w ∈ lw_tbl := by decide +kernel
theorem inJ0 : ∀ w ∈ wsJ00, w ∈ lw_tbl := by decide +kernel
theorem inJ10 : ∀ w ∈ wsJ100, w ∈ lw_tbl := by decide +kernel
