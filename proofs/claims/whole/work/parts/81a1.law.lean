set_option maxRecDepth 20000 in
theorem ggL_law_X9_warmth : GoodIn wsL_law wsX9_warmth := goodIn_r _ [213, 19, 214, 156, 157, 2, 158, 706, 707, 708, 709, 710, 711, 712, 713, 760, 761, 762, 763, 764] (by decide +kernel) (by decide +kernel)
set_option maxRecDepth 20000 in
theorem gL_law_X9_warmth : GoodIn wsL_law (wsV RL 27 RX9 yX9_warmth wsX9_warmth) := goodIn_app (goodIn_of _ (by decide +kernel)) ggL_law_X9_warmth
set_option maxRecDepth 20000 in
theorem ggL_law_X10_warmth : GoodIn wsL_law wsX10_warmth := goodIn_r _ [218, 124, 173, 174, 5, 175, 714, 715, 716, 717, 718, 719, 720, 721, 722, 723, 724, 725, 726, 727, 728, 729, 730, 731, 732, 733, 734, 735, 736, 737, 738, 739, 740, 741, 742, 743, 744, 745, 746, 747, 748, 749, 750, 751, 752, 753, 754, 755, 756] (by decide +kernel) (by decide +kernel)
set_option maxRecDepth 20000 in
theorem gL_law_X10_warmth : GoodIn wsL_law (wsV RL 30 RX10 yX10_warmth wsX10_warmth) := goodIn_app (goodIn_of _ (by decide +kernel)) ggL_law_X10_warmth
set_option maxRecDepth 20000 in
theorem ggL_law_X9_wind : GoodIn wsL_law wsX9_wind := goodIn_r _ [222, 19, 32, 223, 156, 157, 2, 158, 224, 225, 226, 56, 227, 62, 63, 706, 707, 708, 709, 710, 711, 712, 713, 760, 761, 762, 763, 764, 795, 796] (by decide +kernel) (by decide +kernel)
set_option maxRecDepth 20000 in
theorem gL_law_X9_wind : GoodIn wsL_law (wsV RL 31 RX9 yX9_wind wsX9_wind) := goodIn_app (goodIn_of _ (by decide +kernel)) ggL_law_X9_wind
set_option maxRecDepth 20000 in
theorem ggL_law_X10_wind : GoodIn wsL_law wsX10_wind := goodIn_r _ [231, 125, 126, 173, 174, 5, 175, 232, 233, 234, 714, 715, 716, 717, 718, 719, 720, 721, 722, 723, 724, 725, 726, 727, 728, 729, 730, 731, 732, 733, 734, 735, 736, 737, 738, 739, 740, 741, 742, 743, 744, 745, 746, 747, 748, 749, 750, 751, 752, 753, 754, 755, 756] (by decide +kernel) (by decide +kernel)
set_option maxRecDepth 20000 in
theorem gL_law_X10_wind : GoodIn wsL_law (wsV RL 35 RX10 yX10_wind wsX10_wind) := goodIn_app (goodIn_of _ (by decide +kernel)) ggL_law_X10_wind
set_option maxRecDepth 20000 in
theorem ggL_law_X9_fly : GoodIn wsL_law wsX9_fly := goodIn_r _ [238, 15, 180, 24, 21, 181, 182, 183, 14, 184, 43, 44, 157, 2, 158, 156, 185, 186, 187, 239, 240, 241, 39, 242, 243, 244, 112, 245, 246, 247, 248, 249, 250, 251, 252, 253, 254, 255, 256, 257, 258, 113, 114, 259, 260, 706, 707, 708, 709, 710, 711, 712, 713, 757, 758, 759, 788, 789, 790, 791, 792, 793, 794, 797, 798, 799, 800, 801, 802, 803, 804] (by decide +kernel) (by decide +kernel)
set_option maxRecDepth 20000 in
theorem gL_law_X9_fly : GoodIn wsL_law (wsV RL 36 RX9 yX9_fly wsX9_fly) := goodIn_app (goodIn_of _ (by decide +kernel)) ggL_law_X9_fly
set_option maxRecDepth 20000 in
theorem ggL_law_X10_fly : GoodIn wsL_law wsX10_fly := goodIn_r _ [264, 121, 171, 127, 128, 129, 130, 136, 131, 132, 133, 134, 135, 137, 196, 197, 198, 5, 199, 119, 120, 173, 174, 175, 265, 266, 267, 268, 138, 139, 140, 714, 715, 716, 717, 718, 719, 720, 721, 722, 723, 724, 725, 726, 727, 728, 729, 730, 731, 732, 733, 734, 735, 736, 737, 738, 739, 740, 741, 742, 743, 744, 745, 746, 747, 748, 749, 750, 751, 752, 753, 754, 755, 756] (by decide +kernel) (by decide +kernel)
set_option maxRecDepth 20000 in
theorem gL_law_X10_fly : GoodIn wsL_law (wsV RL 40 RX10 yX10_fly wsX10_fly) := goodIn_app (goodIn_of _ (by decide +kernel)) ggL_law_X10_fly
set_option maxRecDepth 20000 in
theorem ggL_law_X9_go : GoodIn wsL_law wsX9_go := goodIn_r _ [272, 21, 273, 274, 275, 19, 32, 15, 276, 277, 278, 2, 279, 24, 156, 157, 158, 280, 281, 282, 76, 283, 284, 285, 286, 287, 288, 289, 290, 291, 292, 293, 294, 295, 296, 297, 298, 299, 300, 301, 302, 303, 304, 305, 306, 307, 308, 309, 310, 311, 312, 313, 314, 315, 316, 317, 318, 319, 320, 321, 322, 323, 324, 56, 325, 62, 63, 326, 327, 328, 14, 329, 330, 331, 332, 333, 334, 182, 183, 184, 43, 44, 186, 187, 335, 256, 257, 39, 258, 253, 113, 112, 245, 246, 114, 259, 260, 706, 707, 708, 709, 710, 711, 712, 713, 788, 789, 790, 791, 792, 793, 794, 797, 798, 799, 800, 801, 802, 803, 804, 760, 761, 762, 763, 764, 795, 796, 757, 758, 759] (by decide +kernel) (by decide +kernel)
set_option maxRecDepth 20000 in
theorem gL_law_X9_go : GoodIn wsL_law (wsV RL 41 RX9 yX9_go wsX9_go) := goodIn_app (goodIn_of _ (by decide +kernel)) ggL_law_X9_go
set_option maxRecDepth 20000 in
theorem ggL_law_X10_go : GoodIn wsL_law wsX10_go := goodIn_r _ [339, 135, 137, 130, 131, 127, 340, 128, 341, 129, 342, 132, 343, 133, 344, 134, 345, 346, 347, 348, 5, 349, 171, 173, 174, 175, 350, 351, 352, 353, 354, 355, 356, 357, 122, 124, 123, 358, 359, 360, 361, 125, 126, 232, 233, 234, 196, 197, 198, 199, 119, 120, 265, 266, 267, 268, 138, 139, 140, 714, 715, 716, 717, 718, 719, 720, 721, 722, 723, 724, 725, 726, 727, 728, 729, 730, 731, 732, 733, 734, 735, 736, 737, 738, 739, 740, 741, 742, 743, 744, 745, 746, 747, 748, 749, 750, 751, 752, 753, 754, 755, 756] (by decide +kernel) (by decide +kernel)
set_option maxRecDepth 20000 in
theorem gL_law_X10_go : GoodIn wsL_law (wsV RL 45 RX10 yX10_go wsX10_go) := goodIn_app (goodIn_of _ (by decide +kernel)) ggL_law_X10_go
