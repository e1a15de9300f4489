set_option maxRecDepth 20000 in
theorem ggL_law_X6_init : GoodIn wsL_law wsX6_init := goodIn_r _ [5, 6, 7, 8, 9, 10, 11, 12, 13, 14, 15, 16, 17, 18, 19, 20, 21, 22, 23, 24, 25, 26, 27, 28, 29, 30, 31, 32, 33, 34, 35, 36, 37, 38, 39, 40, 41, 42, 43, 44, 45, 46, 47, 48, 49, 50, 51, 52, 53, 54, 55, 56, 57, 58, 59, 60, 61, 62, 63, 64, 65, 568, 569, 570, 571, 572, 573, 574, 575, 562, 563, 564, 565, 566, 567, 576, 577, 578, 579, 580, 581, 582, 583, 584, 585, 586, 587, 588, 589, 590, 591] (by decide +kernel) (by decide +kernel)
set_option maxRecDepth 20000 in
theorem gL_law_X6_init : GoodIn wsL_law (wsX6_init) := ggL_law_X6_init
set_option maxRecDepth 20000 in
theorem gc_fits_0 : GoodIn wsL_law [.code yL_fits cL_fits 3 (some .boolean)] := goodIn_r _ [69] (by decide +kernel) (by decide +kernel)
set_option maxRecDepth 20000 in
theorem gc_fits_wsL_fits_r1 : GoodIn wsL_law wsL_fits_r1 := goodIn_r _ [70, 71, 72, 2, 73, 74, 17, 75, 76, 77, 78, 79, 80, 81, 82, 83, 21, 84, 12, 85, 86, 87, 11, 88] (by decide +kernel) (by decide +kernel)
set_option maxRecDepth 20000 in
theorem gc_fits_wsL_fits_r2 : GoodIn wsL_law wsL_fits_r2 := goodIn_r _ [35, 36, 37, 38, 33, 89, 34, 90, 91, 92, 93, 94, 95, 96, 97, 98, 29, 99, 100, 101, 102, 28, 103, 104] (by decide +kernel) (by decide +kernel)
set_option maxRecDepth 20000 in
theorem gc_fits_wsL_fits_r3 : GoodIn wsL_law wsL_fits_r3 := goodIn_r _ [105, 106, 107, 108, 23, 109, 110, 111, 112, 113, 114, 115, 116, 117, 118, 119, 120, 121, 122, 123, 124, 125, 126, 127] (by decide +kernel) (by decide +kernel)
set_option maxRecDepth 20000 in
theorem gc_fits_wsL_fits_r4 : GoodIn wsL_law wsL_fits_r4 := goodIn_r _ [128, 24, 129, 130, 131, 132, 133, 134, 135, 136, 137, 138, 139, 140, 141, 142, 143, 144, 145, 146, 147, 148, 149, 150] (by decide +kernel) (by decide +kernel)
set_option maxRecDepth 20000 in
theorem gc_fits_wsL_fits_r5 : GoodIn wsL_law wsL_fits_r5 := goodIn_r _ [151, 152, 153, 154, 155, 156, 157, 158, 159, 160, 161, 162, 163, 164, 165, 166, 167, 168, 169, 170, 171, 172, 173, 174] (by decide +kernel) (by decide +kernel)
set_option maxRecDepth 20000 in
theorem gc_fits_wsL_fits_r6 : GoodIn wsL_law wsL_fits_r6 := goodIn_r _ [32, 175, 45, 176, 177, 178, 179, 42, 43, 44, 46, 47, 48, 49, 180, 181, 182, 183, 184, 185, 186, 187, 188, 189] (by decide +kernel) (by decide +kernel)
set_option maxRecDepth 20000 in
theorem gc_fits_wsL_fits_r7 : GoodIn wsL_law wsL_fits_r7 := goodIn_r _ [190, 191, 192, 193, 194, 195, 196, 197, 198, 199, 200, 201, 202, 203, 204, 205, 206, 68, 207, 208, 209, 210, 211, 212] (by decide +kernel) (by decide +kernel)
set_option maxRecDepth 20000 in
theorem gc_fits_wsL_fits_r8 : GoodIn wsL_law wsL_fits_r8 := goodIn_r _ [213, 214, 215, 216, 217, 218, 219, 220, 221, 222, 223, 224, 225, 226, 227, 228, 229, 230, 231, 232, 233, 234, 235, 236] (by decide +kernel) (by decide +kernel)
set_option maxRecDepth 20000 in
theorem gc_fits_wsL_fits_r9 : GoodIn wsL_law wsL_fits_r9 := goodIn_r _ [237, 238, 239, 240, 241, 242, 243, 244, 245, 246, 247, 248, 249, 250, 251, 252, 253, 254, 255, 256, 257, 258, 259, 260] (by decide +kernel) (by decide +kernel)
set_option maxRecDepth 20000 in
theorem gc_fits_wsL_fits_r10 : GoodIn wsL_law wsL_fits_r10 := goodIn_r _ [261, 262, 263, 264, 265, 266, 267, 268, 269, 270, 271, 272, 273, 274, 275, 276, 277, 278, 279, 280, 281, 282, 283, 284] (by decide +kernel) (by decide +kernel)
set_option maxRecDepth 20000 in
theorem gc_fits_wsL_fits_r11 : GoodIn wsL_law wsL_fits_r11 := goodIn_r _ [285, 286, 287, 288, 289, 290, 291, 292, 293, 294, 295, 296, 297, 298, 299, 300, 301, 302, 303, 304, 305, 306, 307, 308] (by decide +kernel) (by decide +kernel)
set_option maxRecDepth 20000 in
theorem gc_fits_wsL_fits_r12 : GoodIn wsL_law wsL_fits_r12 := goodIn_r _ [309, 13, 310, 311, 312, 313, 314, 315, 316, 317, 318, 319, 320, 321, 322, 323, 324, 325, 326, 327, 328, 329, 330, 331] (by decide +kernel) (by decide +kernel)
set_option maxRecDepth 20000 in
theorem gc_fits_wsL_fits_r13 : GoodIn wsL_law wsL_fits_r13 := goodIn_r _ [332, 333, 334, 335, 336, 337, 338, 339, 340, 341, 342, 343, 344, 345, 346, 347, 348, 349, 350, 351, 352, 353, 354, 355] (by decide +kernel) (by decide +kernel)
set_option maxRecDepth 20000 in
theorem gc_fits_wsL_fits_r14 : GoodIn wsL_law wsL_fits_r14 := goodIn_r _ [356, 357, 358, 359, 360, 361, 362, 363, 364, 365, 366, 367, 368, 369, 370, 371, 372] (by decide +kernel) (by decide +kernel)
set_option maxRecDepth 20000 in
theorem gc_fits_wsX60 : GoodIn wsL_law wsX60 := goodIn_r _ [562, 563, 564, 565, 566, 567] (by decide +kernel) (by decide +kernel)
set_option maxRecDepth 20000 in
theorem gc_fits_wsX40 : GoodIn wsL_law wsX40 := goodIn_r _ [576, 577, 578] (by decide +kernel) (by decide +kernel)
set_option maxRecDepth 20000 in
theorem gc_fits_wsX10 : GoodIn wsL_law wsX10 := goodIn_r _ [579, 580, 581, 582, 583] (by decide +kernel) (by decide +kernel)
set_option maxRecDepth 20000 in
theorem gc_fits_wsX30 : GoodIn wsL_law wsX30 := goodIn_r _ [568, 569, 570, 571, 572, 573, 574, 575] (by decide +kernel) (by decide +kernel)
set_option maxRecDepth 20000 in
theorem gc_fits_wsX20 : GoodIn wsL_law wsX20 := goodIn_r _ [584, 585, 586, 587, 588, 589, 590, 591] (by decide +kernel) (by decide +kernel)
set_option maxRecDepth 20000 in
theorem ggL_law_L_fits : GoodIn wsL_law wsL_fits := goodIn_app gc_fits_0 (goodIn_app (goodIn_app (goodIn_app (goodIn_app (goodIn_app (goodIn_app (goodIn_app (goodIn_app (goodIn_app gc_fits_wsL_fits_r1 (goodIn_app gc_fits_wsL_fits_r2 (goodIn_app gc_fits_wsL_fits_r3 (goodIn_app gc_fits_wsL_fits_r4 (goodIn_app gc_fits_wsL_fits_r5 (goodIn_app gc_fits_wsL_fits_r6 (goodIn_app gc_fits_wsL_fits_r7 (goodIn_app gc_fits_wsL_fits_r8 (goodIn_app gc_fits_wsL_fits_r9 (goodIn_app gc_fits_wsL_fits_r10 (goodIn_app gc_fits_wsL_fits_r11 (goodIn_app gc_fits_wsL_fits_r12 (goodIn_app gc_fits_wsL_fits_r13 gc_fits_wsL_fits_r14))))))))))))) gc_fits_wsX60) gc_fits_wsX40) gc_fits_wsX10) gc_fits_wsX30) gc_fits_wsX20) (goodIn_sub (fun _ h => List.mem_append_left _ (List.mem_append_left _ (List.mem_append_right _ h))) (by decide +kernel))) (goodIn_sub (fun _ h => List.mem_append_left _ (List.mem_append_right _ h)) (by decide +kernel))) (goodIn_sub (fun _ h => List.mem_append_right _ h) (by decide +kernel)))
set_option maxRecDepth 20000 in
theorem gL_law_L_fits : GoodIn wsL_law (va_wsS RL 146 yL_fits wsL_fits) := goodIn_app (goodIn_of _ (by decide +kernel)) ggL_law_L_fits
set_option maxRecDepth 20000 in
theorem ggL_law_X6_digest : GoodIn wsL_law wsX6_digest := goodIn_r _ [73, 74, 17, 75, 76, 77, 2, 78, 79, 80, 81, 82, 83, 21, 84, 12, 85, 86, 87, 11, 88, 35, 36, 37, 38, 33, 89, 34, 90, 91, 92, 93, 94, 95, 96, 97, 98, 29, 99, 100, 101, 102, 28, 103, 104, 105, 106, 107, 108, 23, 109, 110, 111, 112, 113, 114, 115, 116, 117, 118, 119, 120, 121, 122, 123, 124, 125, 126, 127, 128, 24, 129, 130, 131, 132, 133, 134, 135, 136, 137, 138, 139, 140, 141, 142, 143, 144, 145, 146, 147, 148, 149, 150, 151, 152, 153, 154, 155, 156, 157, 158, 159, 160, 161, 162, 163, 164, 165, 166, 167, 168, 169, 170, 171, 172, 173, 174, 32, 175, 45, 176, 177, 178, 179, 42, 43, 44, 46, 47, 48, 49, 180, 181, 182, 183, 184, 185, 186, 187, 188, 189, 190, 191, 192, 193, 194, 195, 196, 197, 198, 199, 200, 201, 202, 203, 204, 562, 563, 564, 565, 566, 567, 576, 577, 578, 579, 580, 581, 582, 583, 568, 569, 570, 571, 572, 573, 574, 575, 584, 585, 586, 587, 588, 589, 590, 591] (by decide +kernel) (by decide +kernel)
set_option maxRecDepth 20000 in
theorem gL_law_X6_digest : GoodIn wsL_law (wsV RL 102 RX6 yX6_digest wsX6_digest) := goodIn_app (goodIn_of _ (by decide +kernel)) ggL_law_X6_digest
set_option maxRecDepth 20000 in
theorem ggL_law_L_cell : GoodIn wsL_law wsL_cell := goodIn_r _ [375, 376] (by decide +kernel) (by decide +kernel)
set_option maxRecDepth 20000 in
theorem gL_law_L_cell : GoodIn wsL_law (va_wsS RL 149 yL_cell wsL_cell) := goodIn_app (goodIn_of _ (by decide +kernel)) ggL_law_L_cell
set_option maxRecDepth 20000 in
theorem gc_goes_0 : GoodIn wsL_law [.code yL_goes cL_goes 7 (some .int)] := goodIn_r _ [379] (by decide +kernel) (by decide +kernel)
set_option maxRecDepth 20000 in
theorem gc_goes_wsL_goes_r1 : GoodIn wsL_law wsL_goes_r1 := goodIn_r _ [380, 381, 68, 382, 383, 384, 385, 386, 387, 388, 389, 390, 391, 392, 393, 394, 2, 395, 12, 17, 396, 397, 398, 11] (by decide +kernel) (by decide +kernel)
set_option maxRecDepth 20000 in
theorem gc_goes_wsL_goes_r2 : GoodIn wsL_law wsL_goes_r2 := goodIn_r _ [399, 35, 240, 241, 215, 216, 217, 400, 401, 402, 403, 243, 244, 245, 95, 96, 97, 98, 29, 116, 117, 118, 119, 218] (by decide +kernel) (by decide +kernel)
set_option maxRecDepth 20000 in
theorem gc_goes_wsL_goes_r3 : GoodIn wsL_law wsL_goes_r3 := goodIn_r _ [219, 220, 221, 222, 223, 224, 225, 226, 404, 405, 406, 16, 407, 57, 56, 408, 409, 410, 411, 55, 412, 311, 312, 313] (by decide +kernel) (by decide +kernel)
set_option maxRecDepth 20000 in
theorem gc_goes_wsL_goes_r4 : GoodIn wsL_law wsL_goes_r4 := goodIn_r _ [28, 314, 315, 316, 317, 33, 34, 36, 37, 38, 318, 319, 320, 32, 321, 42, 43, 44, 45, 46, 47, 48, 49, 413] (by decide +kernel) (by decide +kernel)
set_option maxRecDepth 20000 in
theorem gc_goes_wsL_goes_r5 : GoodIn wsL_law wsL_goes_r5 := goodIn_r _ [414, 415, 416, 417, 348, 349, 350, 351, 168, 169, 170, 171, 418, 419, 420, 421, 422, 423, 424, 425, 426, 427, 428, 429] (by decide +kernel) (by decide +kernel)
set_option maxRecDepth 20000 in
theorem gc_goes_wsL_goes_r6 : GoodIn wsL_law wsL_goes_r6 := goodIn_r _ [430, 431, 432, 433, 434, 435, 436, 437, 438, 439, 440, 441, 442, 443, 444, 445, 446, 447, 448, 90, 251, 252, 449, 450] (by decide +kernel) (by decide +kernel)
set_option maxRecDepth 20000 in
theorem gc_goes_wsL_goes_r7 : GoodIn wsL_law wsL_goes_r7 := goodIn_r _ [451, 452, 160, 161, 162, 163, 164, 165, 166, 167, 172, 173, 174, 175, 453, 454, 455, 456, 457, 458, 459, 460, 461, 462] (by decide +kernel) (by decide +kernel)
set_option maxRecDepth 20000 in
theorem gc_goes_wsL_goes_r8 : GoodIn wsL_law wsL_goes_r8 := goodIn_r _ [463, 464, 465, 466, 467, 468, 469, 470, 471, 472, 473, 474, 475, 476, 477, 478, 213, 214, 479, 480, 481, 482, 483, 484] (by decide +kernel) (by decide +kernel)
set_option maxRecDepth 20000 in
theorem gc_goes_wsL_goes_r9 : GoodIn wsL_law wsL_goes_r9 := goodIn_r _ [485, 486, 487, 488, 489, 490, 491, 492, 493, 494, 495, 496, 497, 498, 499, 500, 501, 502, 503, 504, 505, 506, 507, 508] (by decide +kernel) (by decide +kernel)
set_option maxRecDepth 20000 in
theorem gc_goes_wsL_goes_r10 : GoodIn wsL_law wsL_goes_r10 := goodIn_r _ [509, 510, 511, 335, 336, 337, 197, 198, 199, 200, 338, 339, 340, 341, 342, 120, 121, 122, 123, 103, 104, 114, 115, 343] (by decide +kernel) (by decide +kernel)
set_option maxRecDepth 20000 in
theorem gc_goes_wsL_goes_r11 : GoodIn wsL_law wsL_goes_r11 := goodIn_r _ [344, 345, 346, 347, 201, 202, 203, 204, 142, 143, 144, 145, 146, 352, 353, 354, 355, 89, 356, 357, 358, 359, 360, 361] (by decide +kernel) (by decide +kernel)
set_option maxRecDepth 20000 in
theorem gc_goes_wsL_goes_r12 : GoodIn wsL_law wsL_goes_r12 := goodIn_r _ [362, 363, 364, 365, 366, 367, 368, 369, 370, 371, 372, 512, 513, 514, 515, 516, 517, 518, 519, 520, 521, 522, 326, 327] (by decide +kernel) (by decide +kernel)
set_option maxRecDepth 20000 in
theorem gc_goes_wsL_goes_r13 : GoodIn wsL_law wsL_goes_r13 := goodIn_r _ [328, 329, 330, 331, 332, 333, 334, 523, 524, 525, 526, 527, 528, 529, 250, 530, 531, 532, 533, 534, 535, 181, 182, 183] (by decide +kernel) (by decide +kernel)
set_option maxRecDepth 20000 in
theorem gc_goes_wsL_goes_r14 : GoodIn wsL_law wsL_goes_r14 := goodIn_r _ [184, 185, 186, 187, 188, 189, 190, 536, 537, 538, 539, 540, 541, 542, 75, 543, 544, 545, 546, 547, 548, 549, 550, 551] (by decide +kernel) (by decide +kernel)
set_option maxRecDepth 20000 in
theorem gc_goes_wsL_goes_r15 : GoodIn wsL_law wsL_goes_r15 := goodIn_r _ [552, 553, 21, 212, 554, 555, 556, 20, 557, 63, 558, 559, 560, 561, 61] (by decide +kernel) (by decide +kernel)
set_option maxRecDepth 20000 in
theorem gc_goes_wsX60 : GoodIn wsL_law wsX60 := goodIn_r _ [562, 563, 564, 565, 566, 567] (by decide +kernel) (by decide +kernel)
set_option maxRecDepth 20000 in
theorem gc_goes_wsX30 : GoodIn wsL_law wsX30 := goodIn_r _ [568, 569, 570, 571, 572, 573, 574, 575] (by decide +kernel) (by decide +kernel)
set_option maxRecDepth 20000 in
theorem gc_goes_wsX40 : GoodIn wsL_law wsX40 := goodIn_r _ [576, 577, 578] (by decide +kernel) (by decide +kernel)
set_option maxRecDepth 20000 in
theorem gc_goes_wsX20 : GoodIn wsL_law wsX20 := goodIn_r _ [584, 585, 586, 587, 588, 589, 590, 591] (by decide +kernel) (by decide +kernel)
set_option maxRecDepth 20000 in
theorem gc_goes_wsX10 : GoodIn wsL_law wsX10 := goodIn_r _ [579, 580, 581, 582, 583] (by decide +kernel) (by decide +kernel)
set_option maxRecDepth 20000 in
theorem ggL_law_L_goes : GoodIn wsL_law wsL_goes := goodIn_app gc_goes_0 (goodIn_app (goodIn_app (goodIn_app (goodIn_app (goodIn_app (goodIn_app (goodIn_app (goodIn_app (goodIn_app gc_goes_wsL_goes_r1 (goodIn_app gc_goes_wsL_goes_r2 (goodIn_app gc_goes_wsL_goes_r3 (goodIn_app gc_goes_wsL_goes_r4 (goodIn_app gc_goes_wsL_goes_r5 (goodIn_app gc_goes_wsL_goes_r6 (goodIn_app gc_goes_wsL_goes_r7 (goodIn_app gc_goes_wsL_goes_r8 (goodIn_app gc_goes_wsL_goes_r9 (goodIn_app gc_goes_wsL_goes_r10 (goodIn_app gc_goes_wsL_goes_r11 (goodIn_app gc_goes_wsL_goes_r12 (goodIn_app gc_goes_wsL_goes_r13 (goodIn_app gc_goes_wsL_goes_r14 gc_goes_wsL_goes_r15)))))))))))))) gc_goes_wsX60) gc_goes_wsX30) gc_goes_wsX40) gc_goes_wsX20) gc_goes_wsX10) (goodIn_sub (fun _ h => List.mem_append_left _ (List.mem_append_left _ (List.mem_append_right _ h))) (by decide +kernel))) (goodIn_sub (fun _ h => List.mem_append_left _ (List.mem_append_right _ h)) (by decide +kernel))) (goodIn_sub (fun _ h => List.mem_append_right _ h) (by decide +kernel)))
set_option maxRecDepth 20000 in
theorem gL_law_L_goes : GoodIn wsL_law (va_wsS RL 153 yL_goes wsL_goes) := goodIn_app (goodIn_of _ (by decide +kernel)) ggL_law_L_goes
