set_option maxRecDepth 20000 in
theorem ggL_law_X5_on : GoodIn wsL_law wsX5_on := goodIn_r _ [450, 20, 451, 452, 453, 454, 19, 455, 56, 656, 657, 658, 659, 660, 661, 662, 663, 664, 703, 704, 705, 706, 707, 708] (by decide +kernel) (by decide +kernel)
set_option maxRecDepth 20000 in
theorem gL_law_X5_on : GoodIn wsL_law (wsV RL 77 RX5 yX5_on wsX5_on) := goodIn_app (goodIn_of _ (by decide +kernel)) ggL_law_X5_on
set_option maxRecDepth 20000 in
theorem ggL_law_X6_on : GoodIn wsL_law wsX6_on := goodIn_r _ [459, 96, 460, 461, 462, 5, 463, 127, 128, 129, 130, 665, 666, 667, 668, 669, 670, 671, 672, 673, 674, 675, 676, 677, 678, 679, 680, 681, 682, 683, 684, 685, 686, 687, 688, 689, 690, 691, 692, 693, 694, 695, 696, 697] (by decide +kernel) (by decide +kernel)
set_option maxRecDepth 20000 in
theorem gL_law_X6_on : GoodIn wsL_law (wsV RL 81 RX6 yX6_on wsX6_on) := goodIn_app (goodIn_of _ (by decide +kernel)) ggL_law_X6_on
set_option maxRecDepth 20000 in
theorem ggL_law_X5_peel : GoodIn wsL_law wsX5_peel := goodIn_r _ [467, 20, 113, 656, 657, 658, 659, 660, 661, 662, 663, 664, 703, 704, 705, 706, 707, 708] (by decide +kernel) (by decide +kernel)
set_option maxRecDepth 20000 in
theorem gL_law_X5_peel : GoodIn wsL_law (wsV RL 82 RX5 yX5_peel wsX5_peel) := goodIn_app (goodIn_of _ (by decide +kernel)) ggL_law_X5_peel
set_option maxRecDepth 20000 in
theorem ggL_law_X6_peel : GoodIn wsL_law wsX6_peel := goodIn_r _ [471, 127, 665, 666, 667, 668, 669, 670, 671, 672, 673, 674, 675, 676, 677, 678, 679, 680, 681, 682, 683, 684, 685, 686, 687, 688, 689, 690, 691, 692, 693, 694, 695, 696, 697] (by decide +kernel) (by decide +kernel)
set_option maxRecDepth 20000 in
theorem gL_law_X6_peel : GoodIn wsL_law (wsV RL 85 RX6 yX6_peel wsX6_peel) := goodIn_app (goodIn_of _ (by decide +kernel)) ggL_law_X6_peel
set_option maxRecDepth 20000 in
theorem ggL_law_X5_made : GoodIn wsL_law wsX5_made := goodIn_r _ [475, 16, 39, 20, 113, 185, 186, 187, 15, 188, 48, 49, 167, 145, 146, 147, 51, 476, 477, 478, 38, 479, 79, 480, 82, 80, 481, 482, 483, 426, 169, 170, 171, 47, 144, 148, 149, 150, 151, 50, 484, 485, 486, 487, 83, 488, 25, 26, 27, 489, 490, 491, 492, 493, 494, 495, 496, 422, 423, 424, 425, 246, 162, 247, 81, 497, 498, 499, 500, 84, 501, 502, 503, 504, 505, 506, 507, 508, 509, 510, 511, 512, 513, 514, 515, 516, 517, 518, 519, 520, 521, 522, 523, 524, 525, 526, 527, 528, 656, 657, 658, 659, 660, 661, 662, 663, 664, 703, 704, 705, 706, 707, 708, 698, 699, 700, 701, 702, 722, 723, 724, 725, 726, 727] (by decide +kernel) (by decide +kernel)
set_option maxRecDepth 20000 in
theorem gL_law_X5_made : GoodIn wsL_law (wsV RL 86 RX5 yX5_made wsX5_made) := goodIn_app (goodIn_of _ (by decide +kernel)) ggL_law_X5_made
set_option maxRecDepth 20000 in
theorem ggL_law_X6_made : GoodIn wsL_law wsX6_made := goodIn_r _ [532, 107, 90, 177, 178, 179, 5, 180, 126, 128, 129, 130, 193, 194, 195, 196, 89, 533, 534, 535, 536, 91, 127, 93, 96, 537, 538, 539, 540, 108, 92, 94, 431, 432, 433, 434, 97, 303, 304, 305, 541, 542, 543, 544, 545, 546, 547, 548, 549, 550, 551, 552, 553, 554, 555, 556, 95, 665, 666, 667, 668, 669, 670, 671, 672, 673, 674, 675, 676, 677, 678, 679, 680, 681, 682, 683, 684, 685, 686, 687, 688, 689, 690, 691, 692, 693, 694, 695, 696, 697] (by decide +kernel) (by decide +kernel)
set_option maxRecDepth 20000 in
theorem gL_law_X6_made : GoodIn wsL_law (wsV RL 89 RX6 yX6_made wsX6_made) := goodIn_app (goodIn_of _ (by decide +kernel)) ggL_law_X6_made
