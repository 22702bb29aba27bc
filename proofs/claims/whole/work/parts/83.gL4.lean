set_option maxRecDepth 20000 in
theorem ggL_law_X5_bends : GoodIn wsL_law wsX5_bends := goodIn_r _ [404, 35, 115, 116, 2, 117, 322, 323, 324, 325, 16, 135, 31, 22, 275, 276, 277, 30, 278, 279, 280, 281, 239, 282, 240, 283, 236, 237, 238, 67, 241, 242, 161, 162, 163, 243, 244, 165, 166, 245, 246, 247, 248, 186, 187, 15, 188, 48, 49, 249, 169, 170, 171, 47, 144, 145, 146, 147, 51, 148, 149, 150, 151, 50, 284, 251, 252, 253, 254, 285, 286, 287, 288, 289, 290, 291, 292, 326, 327, 328, 34, 329, 72, 330, 331, 332, 333, 334, 335, 336, 73, 337, 25, 26, 27, 338, 339, 340, 341, 74, 342, 343, 344, 345, 346, 347, 348, 349, 350, 351, 352, 353, 354, 355, 356, 357, 358, 359, 360, 361, 362, 363, 364, 365, 366, 367, 368, 369, 370, 405, 406, 407, 408, 409, 410, 411, 412, 656, 657, 658, 659, 660, 661, 662, 663, 664, 698, 699, 700, 701, 702, 709, 710, 711, 712, 713, 714, 715, 716, 717, 718, 719, 720, 721] (by decide +kernel) (by decide +kernel)
set_option maxRecDepth 20000 in
theorem gL_law_X5_bends : GoodIn wsL_law (wsV RL 64 RX5 yX5_bends wsX5_bends) := goodIn_app (goodIn_of _ (by decide +kernel)) ggL_law_X5_bends
set_option maxRecDepth 20000 in
theorem ggL_law_X6_bends : GoodIn wsL_law wsX6_bends := goodIn_r _ [416, 383, 384, 128, 129, 5, 130, 379, 380, 381, 382, 97, 126, 104, 105, 106, 314, 315, 316, 317, 297, 298, 299, 300, 301, 302, 262, 263, 264, 265, 266, 267, 89, 90, 91, 193, 194, 195, 196, 197, 198, 199, 200, 303, 304, 305, 385, 386, 387, 388, 389, 390, 391, 392, 393, 394, 395, 396, 397, 398, 399, 400, 665, 666, 667, 668, 669, 670, 671, 672, 673, 674, 675, 676, 677, 678, 679, 680, 681, 682, 683, 684, 685, 686, 687, 688, 689, 690, 691, 692, 693, 694, 695, 696, 697] (by decide +kernel) (by decide +kernel)
set_option maxRecDepth 20000 in
theorem gL_law_X6_bends : GoodIn wsL_law (wsV RL 67 RX6 yX6_bends wsX6_bends) := goodIn_app (goodIn_of _ (by decide +kernel)) ggL_law_X6_bends
set_option maxRecDepth 20000 in
theorem ggL_law_X5_dust : GoodIn wsL_law wsX5_dust := goodIn_r _ [420, 16, 114, 39, 167, 145, 146, 15, 147, 51, 168, 169, 170, 171, 47, 144, 148, 149, 150, 151, 50, 421, 422, 423, 38, 424, 79, 425, 246, 162, 247, 81, 426, 656, 657, 658, 659, 660, 661, 662, 663, 664, 698, 699, 700, 701, 702, 722, 723, 724, 725, 726, 727] (by decide +kernel) (by decide +kernel)
set_option maxRecDepth 20000 in
theorem gL_law_X5_dust : GoodIn wsL_law (wsV RL 68 RX5 yX5_dust wsX5_dust) := goodIn_app (goodIn_of _ (by decide +kernel)) ggL_law_X5_dust
set_option maxRecDepth 20000 in
theorem ggL_law_X6_dust : GoodIn wsL_law wsX6_dust := goodIn_r _ [430, 89, 90, 91, 177, 178, 179, 5, 180, 126, 128, 129, 130, 431, 432, 433, 434, 97, 303, 304, 305, 665, 666, 667, 668, 669, 670, 671, 672, 673, 674, 675, 676, 677, 678, 679, 680, 681, 682, 683, 684, 685, 686, 687, 688, 689, 690, 691, 692, 693, 694, 695, 696, 697] (by decide +kernel) (by decide +kernel)
set_option maxRecDepth 20000 in
theorem gL_law_X6_dust : GoodIn wsL_law (wsV RL 72 RX6 yX6_dust wsX6_dust) := goodIn_app (goodIn_of _ (by decide +kernel)) ggL_law_X6_dust
set_option maxRecDepth 20000 in
theorem ggL_law_X5_layer : GoodIn wsL_law wsX5_layer := goodIn_r _ [438, 16, 20, 113, 115, 116, 2, 117, 167, 145, 146, 15, 147, 51, 439, 440, 441, 19, 442, 56, 57, 58, 59, 60, 62, 656, 657, 658, 659, 660, 661, 662, 663, 664, 703, 704, 705, 706, 707, 708, 698, 699, 700, 701, 702] (by decide +kernel) (by decide +kernel)
set_option maxRecDepth 20000 in
theorem gL_law_X5_layer : GoodIn wsL_law (wsV RL 73 RX5 yX5_layer wsX5_layer) := goodIn_app (goodIn_of _ (by decide +kernel)) ggL_law_X5_layer
set_option maxRecDepth 20000 in
theorem ggL_law_X6_layer : GoodIn wsL_law wsX6_layer := goodIn_r _ [446, 127, 92, 93, 94, 95, 96, 128, 129, 5, 130, 177, 178, 179, 180, 126, 665, 666, 667, 668, 669, 670, 671, 672, 673, 674, 675, 676, 677, 678, 679, 680, 681, 682, 683, 684, 685, 686, 687, 688, 689, 690, 691, 692, 693, 694, 695, 696, 697] (by decide +kernel) (by decide +kernel)
set_option maxRecDepth 20000 in
theorem gL_law_X6_layer : GoodIn wsL_law (wsV RL 76 RX6 yX6_layer wsX6_layer) := goodIn_app (goodIn_of _ (by decide +kernel)) ggL_law_X6_layer
