set_option maxRecDepth 20000 in
theorem ggL_law_X9_ways : GoodIn wsL_law wsX9_ways := goodIn_r _ [574, 33, 21, 575, 576, 577, 578, 295, 296, 297, 276, 277, 278, 2, 279, 24, 156, 157, 158, 505, 506, 507, 31, 508, 87, 509, 510, 88, 511, 512, 513, 514, 515, 86, 516, 97, 95, 94, 96, 517, 518, 519, 520, 89, 521, 482, 483, 522, 523, 524, 525, 526, 527, 528, 529, 530, 531, 532, 533, 90, 534, 535, 536, 479, 480, 537, 323, 324, 56, 325, 62, 63, 326, 327, 328, 14, 329, 330, 331, 332, 333, 334, 182, 183, 184, 43, 44, 186, 187, 259, 260, 538, 539, 540, 541, 542, 543, 544, 706, 707, 708, 709, 710, 711, 712, 713, 776, 777, 778, 779, 780, 781, 788, 789, 790, 791, 792, 793, 794, 805, 806, 807, 808, 757, 758, 759, 795, 796] (by decide +kernel) (by decide +kernel)
set_option maxRecDepth 20000 in
theorem gL_law_X9_ways : GoodIn wsL_law (wsV RL 80 RX9 yX9_ways wsX9_ways) := goodIn_app (goodIn_of _ (by decide +kernel)) ggL_law_X9_ways
set_option maxRecDepth 20000 in
theorem ggL_law_X10_ways : GoodIn wsL_law wsX10_ways := goodIn_r _ [582, 558, 557, 346, 347, 348, 5, 349, 171, 173, 174, 175, 559, 560, 561, 562, 145, 146, 138, 139, 121, 137, 136, 563, 564, 565, 566, 147, 148, 140, 358, 359, 360, 361, 125, 126, 232, 233, 234, 196, 197, 198, 199, 119, 120, 567, 568, 569, 570, 714, 715, 716, 717, 718, 719, 720, 721, 722, 723, 724, 725, 726, 727, 728, 729, 730, 731, 732, 733, 734, 735, 736, 737, 738, 739, 740, 741, 742, 743, 744, 745, 746, 747, 748, 749, 750, 751, 752, 753, 754, 755, 756] (by decide +kernel) (by decide +kernel)
set_option maxRecDepth 20000 in
theorem gL_law_X10_ways : GoodIn wsL_law (wsV RL 84 RX10 yX10_ways wsX10_ways) := goodIn_app (goodIn_of _ (by decide +kernel)) ggL_law_X10_ways
set_option maxRecDepth 20000 in
theorem ggL_law_X9_chaser : GoodIn wsL_law wsX9_chaser := goodIn_r _ [586, 15, 180, 37, 155, 181, 182, 183, 14, 184, 43, 44, 157, 2, 158, 156, 185, 186, 187, 587, 588, 589, 36, 590, 104, 102, 103, 706, 707, 708, 709, 710, 711, 712, 713, 757, 758, 759, 782, 783, 784, 785, 786, 787] (by decide +kernel) (by decide +kernel)
set_option maxRecDepth 20000 in
theorem gL_law_X9_chaser : GoodIn wsL_law (wsV RL 85 RX9 yX9_chaser wsX9_chaser) := goodIn_app (goodIn_of _ (by decide +kernel)) ggL_law_X9_chaser
set_option maxRecDepth 20000 in
theorem ggL_law_X10_chaser : GoodIn wsL_law wsX10_chaser := goodIn_r _ [594, 121, 172, 141, 142, 143, 196, 197, 198, 5, 199, 119, 120, 173, 174, 175, 714, 715, 716, 717, 718, 719, 720, 721, 722, 723, 724, 725, 726, 727, 728, 729, 730, 731, 732, 733, 734, 735, 736, 737, 738, 739, 740, 741, 742, 743, 744, 745, 746, 747, 748, 749, 750, 751, 752, 753, 754, 755, 756] (by decide +kernel) (by decide +kernel)
set_option maxRecDepth 20000 in
theorem gL_law_X10_chaser : GoodIn wsL_law (wsV RL 88 RX10 yX10_chaser wsX10_chaser) := goodIn_app (goodIn_of _ (by decide +kernel)) ggL_law_X10_chaser
set_option maxRecDepth 20000 in
theorem ggL_law_X9_chase : GoodIn wsL_law wsX9_chase := goodIn_r _ [598, 37, 155, 15, 156, 157, 2, 158, 181, 182, 183, 14, 184, 43, 44, 185, 186, 187, 599, 600, 601, 36, 602, 105, 107, 603, 106, 604, 164, 165, 166, 605, 606, 607, 608, 609, 327, 328, 329, 330, 331, 332, 333, 334, 610, 611, 612, 613, 102, 103, 706, 707, 708, 709, 710, 711, 712, 713, 782, 783, 784, 785, 786, 787, 757, 758, 759] (by decide +kernel) (by decide +kernel)
set_option maxRecDepth 20000 in
theorem gL_law_X9_chase : GoodIn wsL_law (wsV RL 89 RX9 yX9_chase wsX9_chase) := goodIn_app (goodIn_of _ (by decide +kernel)) ggL_law_X9_chase
set_option maxRecDepth 20000 in
theorem ggL_law_X10_chase : GoodIn wsL_law wsX10_chase := goodIn_r _ [617, 172, 173, 174, 5, 175, 196, 197, 198, 199, 119, 120, 618, 619, 620, 621, 149, 142, 141, 143, 622, 623, 624, 625, 121, 714, 715, 716, 717, 718, 719, 720, 721, 722, 723, 724, 725, 726, 727, 728, 729, 730, 731, 732, 733, 734, 735, 736, 737, 738, 739, 740, 741, 742, 743, 744, 745, 746, 747, 748, 749, 750, 751, 752, 753, 754, 755, 756] (by decide +kernel) (by decide +kernel)
set_option maxRecDepth 20000 in
theorem gL_law_X10_chase : GoodIn wsL_law (wsV RL 92 RX10 yX10_chase wsX10_chase) := goodIn_app (goodIn_of _ (by decide +kernel)) ggL_law_X10_chase
set_option maxRecDepth 20000 in
theorem ggL_law_X9_first : GoodIn wsL_law wsX9_first := goodIn_r _ [629, 37, 21, 273, 367, 276, 277, 278, 2, 279, 24, 156, 157, 158, 599, 600, 601, 36, 602, 105, 107, 603, 106, 604, 164, 165, 166, 605, 606, 607, 608, 609, 327, 328, 14, 329, 330, 331, 332, 333, 334, 182, 183, 184, 43, 44, 186, 187, 630, 631, 632, 633, 104, 634, 611, 612, 613, 102, 103, 706, 707, 708, 709, 710, 711, 712, 713, 788, 789, 790, 791, 792, 793, 794, 797, 798, 799, 800, 801, 802, 803, 804, 782, 783, 784, 785, 786, 787, 757, 758, 759] (by decide +kernel) (by decide +kernel)
set_option maxRecDepth 20000 in
theorem gL_law_X9_first : GoodIn wsL_law (wsV RL 93 RX9 yX9_first wsX9_first) := goodIn_app (goodIn_of _ (by decide +kernel)) ggL_law_X9_first
set_option maxRecDepth 20000 in
theorem ggL_law_X10_first : GoodIn wsL_law wsX10_first := goodIn_r _ [638, 172, 127, 128, 346, 347, 348, 5, 349, 171, 173, 174, 175, 618, 619, 620, 621, 149, 142, 141, 143, 622, 623, 624, 625, 121, 196, 197, 198, 199, 119, 120, 714, 715, 716, 717, 718, 719, 720, 721, 722, 723, 724, 725, 726, 727, 728, 729, 730, 731, 732, 733, 734, 735, 736, 737, 738, 739, 740, 741, 742, 743, 744, 745, 746, 747, 748, 749, 750, 751, 752, 753, 754, 755, 756] (by decide +kernel) (by decide +kernel)
set_option maxRecDepth 20000 in
theorem gL_law_X10_first : GoodIn wsL_law (wsV RL 96 RX10 yX10_first wsX10_first) := goodIn_app (goodIn_of _ (by decide +kernel)) ggL_law_X10_first
