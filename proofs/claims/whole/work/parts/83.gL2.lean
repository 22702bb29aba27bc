set_option maxRecDepth 20000 in
theorem ggL_law_X5_raw : GoodIn wsL_law wsX5_raw := goodIn_r _ [214, 16, 185, 186, 187, 15, 188, 48, 49, 167, 145, 146, 147, 51, 168, 169, 170, 171, 47, 144, 148, 149, 150, 151, 50, 656, 657, 658, 659, 660, 661, 662, 663, 664, 698, 699, 700, 701, 702] (by decide +kernel) (by decide +kernel)
set_option maxRecDepth 20000 in
theorem gL_law_X5_raw : GoodIn wsL_law (wsV RL 39 RX5 yX5_raw wsX5_raw) := goodIn_app (goodIn_of _ (by decide +kernel)) ggL_law_X5_raw
set_option maxRecDepth 20000 in
theorem ggL_law_X6_raw : GoodIn wsL_law wsX6_raw := goodIn_r _ [218, 91, 177, 178, 179, 5, 180, 126, 128, 129, 130, 193, 194, 195, 196, 89, 90, 197, 198, 199, 200, 665, 666, 667, 668, 669, 670, 671, 672, 673, 674, 675, 676, 677, 678, 679, 680, 681, 682, 683, 684, 685, 686, 687, 688, 689, 690, 691, 692, 693, 694, 695, 696, 697] (by decide +kernel) (by decide +kernel)
set_option maxRecDepth 20000 in
theorem gL_law_X6_raw : GoodIn wsL_law (wsV RL 43 RX6 yX6_raw wsX6_raw) := goodIn_app (goodIn_of _ (by decide +kernel)) ggL_law_X6_raw
set_option maxRecDepth 20000 in
theorem ggL_law_X5_rule : GoodIn wsL_law wsX5_rule := goodIn_r _ [222, 223, 224, 22, 115, 116, 2, 117, 656, 657, 658, 659, 660, 661, 662, 663, 664] (by decide +kernel) (by decide +kernel)
set_option maxRecDepth 20000 in
theorem gL_law_X5_rule : GoodIn wsL_law (wsV RL 44 RX5 yX5_rule wsX5_rule) := goodIn_app (goodIn_of _ (by decide +kernel)) ggL_law_X5_rule
set_option maxRecDepth 20000 in
theorem ggL_law_X6_rule : GoodIn wsL_law wsX6_rule := goodIn_r _ [228, 97, 128, 129, 5, 130, 665, 666, 667, 668, 669, 670, 671, 672, 673, 674, 675, 676, 677, 678, 679, 680, 681, 682, 683, 684, 685, 686, 687, 688, 689, 690, 691, 692, 693, 694, 695, 696, 697] (by decide +kernel) (by decide +kernel)
set_option maxRecDepth 20000 in
theorem gL_law_X6_rule : GoodIn wsL_law (wsV RL 47 RX6 yX6_rule wsX6_rule) := goodIn_app (goodIn_of _ (by decide +kernel)) ggL_law_X6_rule
set_option maxRecDepth 20000 in
theorem ggL_law_X5_miss : GoodIn wsL_law wsX5_miss := goodIn_r _ [232, 16, 31, 233, 234, 167, 145, 146, 15, 147, 51, 115, 116, 2, 117, 235, 236, 237, 30, 238, 239, 240, 67, 241, 242, 161, 162, 163, 243, 244, 165, 166, 245, 246, 247, 248, 186, 187, 188, 48, 49, 249, 169, 170, 171, 47, 144, 148, 149, 150, 151, 50, 250, 251, 252, 253, 254, 255, 256, 257, 656, 657, 658, 659, 660, 661, 662, 663, 664, 709, 710, 711, 712, 713, 714, 715, 698, 699, 700, 701, 702] (by decide +kernel) (by decide +kernel)
set_option maxRecDepth 20000 in
theorem gL_law_X5_miss : GoodIn wsL_law (wsV RL 48 RX5 yX5_miss wsX5_miss) := goodIn_app (goodIn_of _ (by decide +kernel)) ggL_law_X5_miss
set_option maxRecDepth 20000 in
theorem ggL_law_X6_miss : GoodIn wsL_law wsX6_miss := goodIn_r _ [261, 262, 263, 177, 178, 179, 5, 180, 126, 128, 129, 130, 264, 265, 266, 267, 89, 90, 91, 193, 194, 195, 196, 197, 198, 199, 200, 268, 269, 270, 665, 666, 667, 668, 669, 670, 671, 672, 673, 674, 675, 676, 677, 678, 679, 680, 681, 682, 683, 684, 685, 686, 687, 688, 689, 690, 691, 692, 693, 694, 695, 696, 697] (by decide +kernel) (by decide +kernel)
set_option maxRecDepth 20000 in
theorem gL_law_X6_miss : GoodIn wsL_law (wsV RL 51 RX6 yX6_miss wsX6_miss) := goodIn_app (goodIn_of _ (by decide +kernel)) ggL_law_X6_miss
