set_option maxRecDepth 20000 in
theorem ggL_law_L_worstFork : GoodIn wsL_law wsL_worstFork := goodIn_ca (goodIn_ca (goodIn_r _ [610, 99, 47, 611, 612, 613, 2, 614, 25, 211, 212, 213, 214, 108, 109, 198, 580, 581, 582, 583, 60, 61, 24, 79, 80, 81, 75, 76, 77, 78, 19, 588, 589, 590, 591, 22, 124, 125, 126, 127, 18, 242, 243, 244, 245, 26, 681, 682, 683, 684, 685, 686, 687, 688, 689, 690, 691, 692, 693, 694, 695, 696, 697, 698] (by decide +kernel) (by decide +kernel)) (goodIn_sub (fun _ h => List.mem_append_right _ h) (by decide +kernel))) (goodIn_sub (fun _ h => List.mem_append_left _ (List.mem_append_right _ h)) (by decide +kernel))
set_option maxRecDepth 20000 in
theorem gL_law_L_worstFork : GoodIn wsL_law (va_wsS RL 212 yL_worstFork wsL_worstFork) := goodIn_app (goodIn_of _ (by decide +kernel)) ggL_law_L_worstFork
set_option maxRecDepth 20000 in
theorem ggL_law_X1_worstFork : GoodIn wsL_law wsX1_worstFork := goodIn_r _ [618, 86, 227, 228, 229, 5, 230, 203, 136, 137, 138, 88, 89, 90, 91, 596, 597, 598, 599, 32, 39, 35, 619, 620, 621, 622, 40, 41, 604, 605, 606, 607, 273, 125, 126, 127, 569, 570, 571, 572, 482, 483, 484, 485, 36, 699, 700, 701, 702, 703, 704, 705, 706, 707, 708, 709, 710, 711] (by decide +kernel) (by decide +kernel)
set_option maxRecDepth 20000 in
theorem gL_law_X1_worstFork : GoodIn wsL_law (wsV RL 214 RX1 yX1_worstFork wsX1_worstFork) := goodIn_app (goodIn_of _ (by decide +kernel)) ggL_law_X1_worstFork
set_option maxRecDepth 20000 in
theorem ggL_law_X0_allRegret : GoodIn wsL_law wsX0_allRegret := goodIn_r _ [626, 198, 24, 79, 80, 2, 81, 75, 76, 77, 78, 19, 584, 585, 586, 587, 25, 588, 589, 590, 591, 22, 124, 125, 126, 127, 18, 242, 243, 244, 245, 26, 681, 682, 683, 684, 685, 686, 687, 688, 689, 690, 691, 692, 693, 694, 695, 696, 697, 698] (by decide +kernel) (by decide +kernel)
set_option maxRecDepth 20000 in
theorem gL_law_X0_allRegret : GoodIn wsL_law (wsV RL 215 RX0 yX0_allRegret wsX0_allRegret) := goodIn_app (goodIn_of _ (by decide +kernel)) ggL_law_X0_allRegret
set_option maxRecDepth 20000 in
theorem ggL_law_X1_allRegret : GoodIn wsL_law wsX1_allRegret := goodIn_r _ [630, 631, 632, 633, 5, 634, 203, 596, 597, 598, 599, 32, 39, 35, 600, 601, 602, 603, 40, 604, 605, 606, 607, 41, 273, 125, 126, 127, 569, 570, 571, 572, 482, 483, 484, 485, 36, 294, 295, 296, 297, 86, 699, 700, 701, 702, 703, 704, 705, 706, 707, 708, 709, 710, 711] (by decide +kernel) (by decide +kernel)
set_option maxRecDepth 20000 in
theorem gL_law_X1_allRegret : GoodIn wsL_law (wsV RL 218 RX1 yX1_allRegret wsX1_allRegret) := goodIn_app (goodIn_of _ (by decide +kernel)) ggL_law_X1_allRegret
set_option maxRecDepth 20000 in
theorem ggL_law_X0_meanGrade : GoodIn wsL_law wsX0_meanGrade := goodIn_r _ [638, 146, 147, 681, 682, 683, 684, 685, 686, 687, 688, 689, 690, 691, 692, 693, 694, 695, 696, 697, 698] (by decide +kernel) (by decide +kernel)
set_option maxRecDepth 20000 in
theorem gL_law_X0_meanGrade : GoodIn wsL_law (wsV RL 219 RX0 yX0_meanGrade wsX0_meanGrade) := goodIn_app (goodIn_of _ (by decide +kernel)) ggL_law_X0_meanGrade
set_option maxRecDepth 20000 in
theorem ggL_law_X1_meanGrade : GoodIn wsL_law wsX1_meanGrade := goodIn_r _ [642, 86, 87, 32, 35, 168, 169, 170, 5, 171, 699, 700, 701, 702, 703, 704, 705, 706, 707, 708, 709, 710, 711] (by decide +kernel) (by decide +kernel)
set_option maxRecDepth 20000 in
theorem gL_law_X1_meanGrade : GoodIn wsL_law (wsV RL 223 RX1 yX1_meanGrade wsX1_meanGrade) := goodIn_app (goodIn_of _ (by decide +kernel)) ggL_law_X1_meanGrade
set_option maxRecDepth 20000 in
theorem ggL_law_X0_digest : GoodIn wsL_law wsX0_digest := goodIn_ca (goodIn_r _ [646, 647, 54, 198, 648, 287, 288, 2, 289, 649, 650, 651, 652, 653, 299, 300, 301, 55, 302, 303, 304, 305, 306, 307, 308, 654, 318, 319, 320, 146, 655, 326, 327, 328, 656, 334, 335, 336, 24, 79, 80, 81, 152, 153, 154, 155, 62, 63, 64, 657, 539, 540, 541, 542, 543, 544, 545, 546, 547, 126, 548, 261, 262, 263, 264, 20, 21, 124, 125, 127, 18, 219, 220, 221, 222, 17, 16, 658, 624, 625, 626, 75, 76, 77, 78, 19, 584, 585, 586, 587, 25, 588, 589, 590, 591, 22, 242, 243, 244, 245, 26, 659, 660, 661, 662, 663, 349, 350, 351, 104, 105, 106, 107, 108, 109, 664, 449, 450, 451, 665, 464, 465, 466, 666, 490, 491, 492, 23, 113, 114, 115, 667, 527, 528, 529, 257, 258, 259, 260, 668, 375, 376, 377, 148, 149, 150, 151, 669, 386, 387, 388, 179, 180, 181, 182, 670, 401, 402, 403, 671, 412, 413, 414, 672, 562, 563, 564, 673, 423, 424, 425, 211, 212, 213, 214, 674, 438, 439, 440, 681, 682, 683, 684, 685, 686, 687, 688, 689, 690, 691, 692, 693, 694, 695, 696, 697, 698] (by decide +kernel) (by decide +kernel)) (goodIn_sub (fun _ h => List.mem_append_right _ h) (by decide +kernel))
set_option maxRecDepth 20000 in
theorem gL_law_X0_digest : GoodIn wsL_law (wsV RL 224 RX0 yX0_digest wsX0_digest) := goodIn_app (goodIn_of _ (by decide +kernel)) ggL_law_X0_digest
set_option maxRecDepth 20000 in
theorem ggL_law_X1_digest : GoodIn wsL_law wsX1_digest := goodIn_r _ [678, 86, 13, 87, 203, 679, 680, 32, 37, 38, 33, 34, 35, 39, 40, 269, 270, 271, 5, 272, 273, 125, 126, 127, 313, 314, 315, 316, 168, 169, 170, 171, 341, 342, 343, 344, 553, 554, 555, 556, 557, 547, 548, 282, 283, 284, 285, 631, 632, 633, 634, 596, 597, 598, 599, 600, 601, 602, 603, 604, 605, 606, 607, 41, 569, 570, 571, 572, 482, 483, 484, 485, 36, 497, 498, 499, 500, 534, 535, 536, 537, 274, 275, 276, 277, 278, 279, 280, 281, 699, 700, 701, 702, 703, 704, 705, 706, 707, 708, 709, 710, 711] (by decide +kernel) (by decide +kernel)
set_option maxRecDepth 20000 in
theorem gL_law_X1_digest : GoodIn wsL_law (wsV RL 228 RX1 yX1_digest wsX1_digest) := goodIn_app (goodIn_of _ (by decide +kernel)) ggL_law_X1_digest
