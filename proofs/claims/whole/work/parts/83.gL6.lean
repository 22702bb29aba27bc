set_option maxRecDepth 20000 in
theorem ggL_law_X5_changed : GoodIn wsL_law wsX5_changed := goodIn_r _ [560, 20, 451, 39, 561, 452, 453, 454, 19, 455, 56, 476, 477, 478, 38, 479, 79, 480, 82, 80, 481, 482, 483, 426, 169, 170, 15, 171, 47, 144, 145, 146, 147, 51, 148, 149, 150, 151, 50, 484, 485, 486, 487, 83, 488, 25, 26, 27, 489, 490, 491, 492, 493, 494, 495, 496, 422, 423, 424, 425, 246, 162, 247, 81, 497, 498, 499, 500, 84, 501, 502, 503, 504, 505, 506, 507, 508, 509, 510, 511, 512, 513, 514, 515, 516, 517, 518, 519, 520, 521, 522, 523, 186, 187, 188, 48, 49, 524, 562, 563, 564, 565, 656, 657, 658, 659, 660, 661, 662, 663, 664, 703, 704, 705, 706, 707, 708, 722, 723, 724, 725, 726, 727, 698, 699, 700, 701, 702] (by decide +kernel) (by decide +kernel)
set_option maxRecDepth 20000 in
theorem gL_law_X5_changed : GoodIn wsL_law (wsV RL 90 RX5 yX5_changed wsX5_changed) := goodIn_app (goodIn_of _ (by decide +kernel)) ggL_law_X5_changed
set_option maxRecDepth 20000 in
theorem ggL_law_X6_changed : GoodIn wsL_law wsX6_changed := goodIn_r _ [569, 93, 460, 461, 462, 5, 463, 127, 128, 129, 130, 533, 534, 535, 536, 89, 90, 107, 91, 96, 537, 538, 539, 540, 108, 92, 94, 431, 432, 433, 434, 126, 97, 303, 304, 305, 541, 542, 543, 544, 545, 546, 547, 548, 549, 550, 551, 552, 553, 554, 555, 556, 95, 193, 194, 195, 196, 665, 666, 667, 668, 669, 670, 671, 672, 673, 674, 675, 676, 677, 678, 679, 680, 681, 682, 683, 684, 685, 686, 687, 688, 689, 690, 691, 692, 693, 694, 695, 696, 697] (by decide +kernel) (by decide +kernel)
set_option maxRecDepth 20000 in
theorem gL_law_X6_changed : GoodIn wsL_law (wsV RL 93 RX6 yX6_changed wsX6_changed) := goodIn_app (goodIn_of _ (by decide +kernel)) ggL_law_X6_changed
set_option maxRecDepth 20000 in
theorem ggL_law_X5_of : GoodIn wsL_law wsX5_of := goodIn_r _ [573, 20, 574, 561, 575, 576, 451, 452, 453, 454, 19, 455, 56, 656, 657, 658, 659, 660, 661, 662, 663, 664, 703, 704, 705, 706, 707, 708] (by decide +kernel) (by decide +kernel)
set_option maxRecDepth 20000 in
theorem gL_law_X5_of : GoodIn wsL_law (wsV RL 94 RX5 yX5_of wsX5_of) := goodIn_app (goodIn_of _ (by decide +kernel)) ggL_law_X5_of
set_option maxRecDepth 20000 in
theorem ggL_law_X6_of : GoodIn wsL_law wsX6_of := goodIn_r _ [580, 92, 93, 94, 95, 96, 460, 461, 462, 5, 463, 127, 128, 129, 130, 665, 666, 667, 668, 669, 670, 671, 672, 673, 674, 675, 676, 677, 678, 679, 680, 681, 682, 683, 684, 685, 686, 687, 688, 689, 690, 691, 692, 693, 694, 695, 696, 697] (by decide +kernel) (by decide +kernel)
set_option maxRecDepth 20000 in
theorem gL_law_X6_of : GoodIn wsL_law (wsV RL 97 RX6 yX6_of wsX6_of) := goodIn_app (goodIn_of _ (by decide +kernel)) ggL_law_X6_of
set_option maxRecDepth 20000 in
theorem ggL_law_X5_told : GoodIn wsL_law wsX5_told := goodIn_r _ [584, 16, 39, 20, 113, 114, 167, 145, 146, 15, 147, 51, 115, 116, 2, 117, 476, 477, 478, 38, 479, 79, 480, 82, 80, 481, 482, 483, 426, 169, 170, 171, 47, 144, 148, 149, 150, 151, 50, 484, 485, 486, 487, 83, 488, 25, 26, 27, 489, 490, 491, 492, 493, 494, 495, 496, 422, 423, 424, 425, 246, 162, 247, 81, 497, 498, 499, 500, 84, 501, 502, 503, 504, 505, 506, 507, 508, 509, 510, 511, 512, 513, 514, 515, 516, 517, 518, 519, 520, 521, 522, 523, 186, 187, 188, 48, 49, 524, 585, 586, 587, 588, 589, 590, 591, 592, 593, 594, 161, 163, 595, 596, 597, 598, 599, 165, 166, 600, 601, 602, 603, 656, 657, 658, 659, 660, 661, 662, 663, 664, 703, 704, 705, 706, 707, 708, 698, 699, 700, 701, 702, 722, 723, 724, 725, 726, 727] (by decide +kernel) (by decide +kernel)
set_option maxRecDepth 20000 in
theorem gL_law_X5_told : GoodIn wsL_law (wsV RL 98 RX5 yX5_told wsX5_told) := goodIn_app (goodIn_of _ (by decide +kernel)) ggL_law_X5_told
set_option maxRecDepth 20000 in
theorem ggL_law_X6_told : GoodIn wsL_law wsX6_told := goodIn_r _ [607, 89, 90, 107, 91, 177, 178, 179, 5, 180, 126, 128, 129, 130, 533, 534, 535, 536, 127, 93, 96, 537, 538, 539, 540, 108, 92, 94, 431, 432, 433, 434, 97, 303, 304, 305, 541, 542, 543, 544, 545, 546, 547, 548, 549, 550, 551, 552, 553, 554, 555, 556, 95, 193, 194, 195, 196, 665, 666, 667, 668, 669, 670, 671, 672, 673, 674, 675, 676, 677, 678, 679, 680, 681, 682, 683, 684, 685, 686, 687, 688, 689, 690, 691, 692, 693, 694, 695, 696, 697] (by decide +kernel) (by decide +kernel)
set_option maxRecDepth 20000 in
theorem gL_law_X6_told : GoodIn wsL_law (wsV RL 101 RX6 yX6_told wsX6_told) := goodIn_app (goodIn_of _ (by decide +kernel)) ggL_law_X6_told
