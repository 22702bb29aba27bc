set_option maxRecDepth 20000 in
theorem ggL_law_X5_many : GoodIn wsL_law wsX5_many := goodIn_r _ [611, 16, 612, 205, 135, 20, 113, 22, 613, 614, 615, 19, 616, 56, 62, 617, 618, 619, 15, 620, 51, 50, 621, 169, 170, 171, 47, 144, 145, 146, 147, 148, 149, 150, 151, 656, 657, 658, 659, 660, 661, 662, 663, 664, 698, 699, 700, 701, 702, 703, 704, 705, 706, 707, 708] (by decide +kernel) (by decide +kernel)
set_option maxRecDepth 20000 in
theorem gL_law_X5_many : GoodIn wsL_law (wsV RL 102 RX5 yX5_many wsX5_many) := goodIn_app (goodIn_of _ (by decide +kernel)) ggL_law_X5_many
set_option maxRecDepth 20000 in
theorem ggL_law_X6_many : GoodIn wsL_law wsX6_many := goodIn_r _ [625, 89, 90, 126, 127, 96, 91, 97, 665, 666, 667, 668, 669, 670, 671, 672, 673, 674, 675, 676, 677, 678, 679, 680, 681, 682, 683, 684, 685, 686, 687, 688, 689, 690, 691, 692, 693, 694, 695, 696, 697] (by decide +kernel) (by decide +kernel)
set_option maxRecDepth 20000 in
theorem gL_law_X6_many : GoodIn wsL_law (wsV RL 105 RX6 yX6_many wsX6_many) := goodIn_app (goodIn_of _ (by decide +kernel)) ggL_law_X6_many
set_option maxRecDepth 20000 in
theorem ggL_law_X5_keep : GoodIn wsL_law wsX5_keep := goodIn_r _ [629, 40, 16, 41, 20, 42, 630, 631, 632, 15, 633, 48, 49, 50, 51, 47, 634, 25, 26, 27, 635, 636, 637, 19, 638, 56, 57, 58, 59, 60, 62, 656, 657, 658, 659, 660, 661, 662, 663, 664, 698, 699, 700, 701, 702, 703, 704, 705, 706, 707, 708] (by decide +kernel) (by decide +kernel)
set_option maxRecDepth 20000 in
theorem gL_law_X5_keep : GoodIn wsL_law (wsV RL 106 RX5 yX5_keep wsX5_keep) := goodIn_app (goodIn_of _ (by decide +kernel)) ggL_law_X5_keep
set_option maxRecDepth 20000 in
theorem ggL_law_X6_keep : GoodIn wsL_law wsX6_keep := goodIn_r _ [642, 643, 89, 644, 90, 645, 126, 646, 127, 647, 98, 91, 99, 92, 100, 93, 101, 94, 102, 95, 103, 96, 665, 666, 667, 668, 669, 670, 671, 672, 673, 674, 675, 676, 677, 678, 679, 680, 681, 682, 683, 684, 685, 686, 687, 688, 689, 690, 691, 692, 693, 694, 695, 696, 697] (by decide +kernel) (by decide +kernel)
set_option maxRecDepth 20000 in
theorem gL_law_X6_keep : GoodIn wsL_law (wsV RL 109 RX6 yX6_keep wsX6_keep) := goodIn_app (goodIn_of _ (by decide +kernel)) ggL_law_X6_keep
set_option maxRecDepth 20000 in
theorem ggL_law_X5_back : GoodIn wsL_law wsX5_back := goodIn_r _ [651, 42, 16, 40, 20, 41, 630, 631, 632, 15, 633, 48, 49, 50, 51, 47, 634, 25, 26, 27, 635, 636, 637, 19, 638, 56, 57, 58, 59, 60, 62, 656, 657, 658, 659, 660, 661, 662, 663, 664, 698, 699, 700, 701, 702, 703, 704, 705, 706, 707, 708] (by decide +kernel) (by decide +kernel)
set_option maxRecDepth 20000 in
theorem gL_law_X5_back : GoodIn wsL_law (wsV RL 110 RX5 yX5_back wsX5_back) := goodIn_app (goodIn_of _ (by decide +kernel)) ggL_law_X5_back
set_option maxRecDepth 20000 in
theorem ggL_law_X6_back : GoodIn wsL_law wsX6_back := goodIn_r _ [655, 643, 644, 89, 645, 90, 646, 126, 647, 127, 91, 98, 92, 99, 93, 100, 94, 101, 95, 102, 96, 103, 665, 666, 667, 668, 669, 670, 671, 672, 673, 674, 675, 676, 677, 678, 679, 680, 681, 682, 683, 684, 685, 686, 687, 688, 689, 690, 691, 692, 693, 694, 695, 696, 697] (by decide +kernel) (by decide +kernel)
set_option maxRecDepth 20000 in
theorem gL_law_X6_back : GoodIn wsL_law (wsV RL 113 RX6 yX6_back wsX6_back) := goodIn_app (goodIn_of _ (by decide +kernel)) ggL_law_X6_back
