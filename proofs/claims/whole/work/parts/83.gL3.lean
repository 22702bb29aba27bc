set_option maxRecDepth 20000 in
theorem ggL_law_X5_shift : GoodIn wsL_law wsX5_shift := goodIn_r _ [274, 16, 31, 167, 145, 146, 15, 147, 51, 115, 116, 2, 117, 275, 276, 277, 30, 278, 279, 280, 281, 239, 282, 240, 283, 236, 237, 238, 67, 241, 242, 161, 162, 163, 243, 244, 165, 166, 245, 246, 247, 248, 186, 187, 188, 48, 49, 249, 169, 170, 171, 47, 144, 148, 149, 150, 151, 50, 284, 251, 252, 253, 254, 285, 286, 287, 288, 289, 290, 291, 292, 656, 657, 658, 659, 660, 661, 662, 663, 664, 698, 699, 700, 701, 702, 709, 710, 711, 712, 713, 714, 715] (by decide +kernel) (by decide +kernel)
set_option maxRecDepth 20000 in
theorem gL_law_X5_shift : GoodIn wsL_law (wsV RL 52 RX5 yX5_shift wsX5_shift) := goodIn_app (goodIn_of _ (by decide +kernel)) ggL_law_X5_shift
set_option maxRecDepth 20000 in
theorem ggL_law_X6_shift : GoodIn wsL_law wsX6_shift := goodIn_r _ [296, 297, 298, 177, 178, 179, 5, 180, 126, 128, 129, 130, 299, 300, 301, 302, 262, 263, 264, 265, 266, 267, 89, 90, 91, 193, 194, 195, 196, 197, 198, 199, 200, 303, 304, 305, 665, 666, 667, 668, 669, 670, 671, 672, 673, 674, 675, 676, 677, 678, 679, 680, 681, 682, 683, 684, 685, 686, 687, 688, 689, 690, 691, 692, 693, 694, 695, 696, 697] (by decide +kernel) (by decide +kernel)
set_option maxRecDepth 20000 in
theorem gL_law_X6_shift : GoodIn wsL_law (wsV RL 55 RX6 yX6_shift wsX6_shift) := goodIn_app (goodIn_of _ (by decide +kernel)) ggL_law_X6_shift
set_option maxRecDepth 20000 in
theorem ggL_law_X5_drift : GoodIn wsL_law wsX5_drift := goodIn_r _ [309, 16, 31, 167, 145, 146, 15, 147, 51, 115, 116, 2, 117, 275, 276, 277, 30, 278, 279, 280, 281, 239, 282, 240, 283, 236, 237, 238, 67, 241, 242, 161, 162, 163, 243, 244, 165, 166, 245, 246, 247, 248, 186, 187, 188, 48, 49, 249, 169, 170, 171, 47, 144, 148, 149, 150, 151, 50, 284, 251, 252, 253, 254, 285, 286, 287, 288, 289, 290, 291, 292, 656, 657, 658, 659, 660, 661, 662, 663, 664, 698, 699, 700, 701, 702, 709, 710, 711, 712, 713, 714, 715] (by decide +kernel) (by decide +kernel)
set_option maxRecDepth 20000 in
theorem gL_law_X5_drift : GoodIn wsL_law (wsV RL 56 RX5 yX5_drift wsX5_drift) := goodIn_app (goodIn_of _ (by decide +kernel)) ggL_law_X5_drift
set_option maxRecDepth 20000 in
theorem ggL_law_X6_drift : GoodIn wsL_law wsX6_drift := goodIn_r _ [313, 177, 178, 179, 5, 180, 126, 128, 129, 130, 314, 315, 316, 317, 297, 298, 299, 300, 301, 302, 262, 263, 264, 265, 266, 267, 89, 90, 91, 193, 194, 195, 196, 197, 198, 199, 200, 303, 304, 305, 665, 666, 667, 668, 669, 670, 671, 672, 673, 674, 675, 676, 677, 678, 679, 680, 681, 682, 683, 684, 685, 686, 687, 688, 689, 690, 691, 692, 693, 694, 695, 696, 697] (by decide +kernel) (by decide +kernel)
set_option maxRecDepth 20000 in
theorem gL_law_X6_drift : GoodIn wsL_law (wsV RL 59 RX6 yX6_drift wsX6_drift) := goodIn_app (goodIn_of _ (by decide +kernel)) ggL_law_X6_drift
set_option maxRecDepth 20000 in
theorem ggL_law_X5_path : GoodIn wsL_law wsX5_path := goodIn_r _ [321, 16, 35, 167, 145, 146, 15, 147, 51, 115, 116, 2, 117, 322, 323, 324, 325, 135, 31, 22, 275, 276, 277, 30, 278, 279, 280, 281, 239, 282, 240, 283, 236, 237, 238, 67, 241, 242, 161, 162, 163, 243, 244, 165, 166, 245, 246, 247, 248, 186, 187, 188, 48, 49, 249, 169, 170, 171, 47, 144, 148, 149, 150, 151, 50, 284, 251, 252, 253, 254, 285, 286, 287, 288, 289, 290, 291, 292, 326, 327, 328, 34, 329, 72, 330, 331, 332, 333, 334, 335, 336, 73, 337, 25, 26, 27, 338, 339, 340, 341, 74, 342, 343, 344, 345, 346, 347, 348, 349, 350, 351, 352, 353, 354, 355, 356, 357, 358, 359, 360, 361, 362, 363, 364, 365, 366, 367, 368, 369, 370, 371, 372, 373, 374, 656, 657, 658, 659, 660, 661, 662, 663, 664, 698, 699, 700, 701, 702, 709, 710, 711, 712, 713, 714, 715, 716, 717, 718, 719, 720, 721] (by decide +kernel) (by decide +kernel)
set_option maxRecDepth 20000 in
theorem gL_law_X5_path : GoodIn wsL_law (wsV RL 60 RX5 yX5_path wsX5_path) := goodIn_app (goodIn_of _ (by decide +kernel)) ggL_law_X5_path
set_option maxRecDepth 20000 in
theorem ggL_law_X6_path : GoodIn wsL_law wsX6_path := goodIn_r _ [378, 105, 177, 178, 179, 5, 180, 126, 128, 129, 130, 379, 380, 381, 382, 97, 383, 384, 104, 106, 314, 315, 316, 317, 297, 298, 299, 300, 301, 302, 262, 263, 264, 265, 266, 267, 89, 90, 91, 193, 194, 195, 196, 197, 198, 199, 200, 303, 304, 305, 385, 386, 387, 388, 389, 390, 391, 392, 393, 394, 395, 396, 397, 398, 399, 400, 665, 666, 667, 668, 669, 670, 671, 672, 673, 674, 675, 676, 677, 678, 679, 680, 681, 682, 683, 684, 685, 686, 687, 688, 689, 690, 691, 692, 693, 694, 695, 696, 697] (by decide +kernel) (by decide +kernel)
set_option maxRecDepth 20000 in
theorem gL_law_X6_path : GoodIn wsL_law (wsV RL 63 RX6 yX6_path wsX6_path) := goodIn_app (goodIn_of _ (by decide +kernel)) ggL_law_X6_path
