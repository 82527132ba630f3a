/-! the law: what its calls need is among its words -/
set_option maxRecDepth 20000 in
theorem ggL_law_X10_look : GoodIn wsL_law wsX10_look := goodIn_r _ [681, 682, 658, 659, 5, 660, 252, 127, 117, 128, 118, 307, 308, 309, 310, 115, 366, 367, 368, 369, 112, 113, 129, 114, 130, 370, 371, 372, 373, 374, 311, 312, 313, 314, 375, 376, 377, 378, 379, 380, 381, 382, 383, 384, 151, 152, 153, 683, 684, 685, 686, 687, 688, 689, 756, 757, 758, 759, 760, 761, 762, 763, 764, 765, 766, 767, 768, 769, 770, 771, 772, 773, 774, 775, 776, 777, 778, 779, 780, 781, 782, 783, 784, 785, 786, 787, 788, 789, 790, 791, 792] (by decide +kernel) (by decide +kernel)
set_option maxRecDepth 20000 in
theorem gL_law_X10_look : GoodIn wsL_law (wsV RL 85 RX10 yX10_look wsX10_look) := goodIn_app (goodIn_of _ (by decide +kernel)) ggL_law_X10_look
set_option maxRecDepth 20000 in
theorem ggL_law_X9_keep : GoodIn wsL_law wsX9_keep := goodIn_r _ [693, 23, 694, 695, 696, 2, 697, 36, 37, 698, 699, 700, 35, 701, 94, 95, 702, 703, 704, 67, 705, 462, 390, 391, 392, 74, 220, 221, 222, 495, 496, 497, 498, 463, 296, 297, 298, 73, 227, 228, 229, 230, 223, 224, 225, 226, 743, 744, 745, 746, 747, 748, 749, 750, 751, 752, 753, 754, 755, 798, 799, 800, 801, 802, 812, 813, 824, 825] (by decide +kernel) (by decide +kernel)
set_option maxRecDepth 20000 in
theorem gL_law_X9_keep : GoodIn wsL_law (wsV RL 86 RX9 yX9_keep wsX9_keep) := goodIn_app (goodIn_of _ (by decide +kernel)) ggL_law_X9_keep
set_option maxRecDepth 20000 in
theorem ggL_law_X10_keep : GoodIn wsL_law wsX10_keep := goodIn_r _ [709, 120, 121, 115, 250, 151, 152, 5, 153, 756, 757, 758, 759, 760, 761, 762, 763, 764, 765, 766, 767, 768, 769, 770, 771, 772, 773, 774, 775, 776, 777, 778, 779, 780, 781, 782, 783, 784, 785, 786, 787, 788, 789, 790, 791, 792] (by decide +kernel) (by decide +kernel)
set_option maxRecDepth 20000 in
theorem gL_law_X10_keep : GoodIn wsL_law (wsV RL 89 RX10 yX10_keep wsX10_keep) := goodIn_app (goodIn_of _ (by decide +kernel)) ggL_law_X10_keep
set_option maxRecDepth 20000 in
theorem ggL_law_X9_back : GoodIn wsL_law wsX9_back := goodIn_r _ [713, 23, 28, 694, 695, 696, 2, 697, 36, 37, 714, 703, 704, 67, 705, 462, 390, 391, 392, 74, 220, 221, 222, 495, 496, 497, 498, 463, 296, 297, 298, 73, 227, 228, 229, 230, 223, 224, 225, 226, 231, 232, 233, 27, 234, 82, 812, 813, 743, 744, 745, 746, 747, 748, 749, 750, 751, 752, 753, 754, 755, 798, 799, 800, 801, 802, 824, 825, 803, 804, 805, 806, 807] (by decide +kernel) (by decide +kernel)
set_option maxRecDepth 20000 in
theorem gL_law_X9_back : GoodIn wsL_law (wsV RL 90 RX9 yX9_back wsX9_back) := goodIn_app (goodIn_of _ (by decide +kernel)) ggL_law_X9_back
set_option maxRecDepth 20000 in
theorem ggL_law_X10_back : GoodIn wsL_law wsX10_back := goodIn_r _ [718, 120, 115, 121, 251, 250, 151, 152, 5, 153, 756, 757, 758, 759, 760, 761, 762, 763, 764, 765, 766, 767, 768, 769, 770, 771, 772, 773, 774, 775, 776, 777, 778, 779, 780, 781, 782, 783, 784, 785, 786, 787, 788, 789, 790, 791, 792] (by decide +kernel) (by decide +kernel)
set_option maxRecDepth 20000 in
theorem gL_law_X10_back : GoodIn wsL_law (wsV RL 93 RX10 yX10_back wsX10_back) := goodIn_app (goodIn_of _ (by decide +kernel)) ggL_law_X10_back
set_option maxRecDepth 20000 in
theorem ggL_law_X9_count : GoodIn wsL_law wsX9_count := goodIn_r _ [722, 23, 32, 15, 28, 723, 724, 725, 2, 726, 389, 390, 391, 67, 392, 74, 220, 221, 222, 727, 728, 729, 730, 41, 322, 323, 324, 40, 325, 326, 104, 327, 328, 329, 22, 330, 69, 62, 63, 64, 331, 332, 333, 45, 334, 335, 336, 337, 338, 339, 340, 341, 342, 99, 100, 101, 102, 320, 321, 343, 296, 297, 298, 73, 227, 228, 229, 230, 344, 345, 346, 347, 348, 349, 350, 351, 352, 353, 354, 355, 356, 731, 732, 733, 734, 542, 543, 544, 545, 42, 546, 547, 548, 549, 550, 551, 552, 553, 416, 417, 418, 419, 554, 555, 556, 557, 558, 559, 560, 561, 562, 142, 143, 144, 14, 145, 55, 743, 744, 745, 746, 747, 748, 749, 750, 751, 752, 753, 754, 755, 798, 799, 800, 801, 802, 808, 809, 810, 811, 803, 804, 805, 806, 807, 824, 825, 814, 815, 816, 817, 818, 819, 820, 821, 822, 823, 793, 794] (by decide +kernel) (by decide +kernel)
set_option maxRecDepth 20000 in
theorem gL_law_X9_count : GoodIn wsL_law (wsV RL 94 RX9 yX9_count wsX9_count) := goodIn_app (goodIn_of _ (by decide +kernel)) ggL_law_X9_count
set_option maxRecDepth 20000 in
theorem ggL_law_X10_count : GoodIn wsL_law wsX10_count := goodIn_r _ [738, 250, 252, 150, 251, 739, 740, 741, 5, 742, 370, 366, 367, 368, 369, 127, 112, 128, 113, 129, 114, 130, 371, 372, 373, 374, 307, 308, 309, 310, 115, 311, 312, 313, 314, 375, 376, 377, 378, 379, 380, 381, 382, 383, 384, 151, 152, 153, 567, 568, 569, 570, 131, 132, 428, 429, 430, 431, 571, 572, 573, 574, 756, 757, 758, 759, 760, 761, 762, 763, 764, 765, 766, 767, 768, 769, 770, 771, 772, 773, 774, 775, 776, 777, 778, 779, 780, 781, 782, 783, 784, 785, 786, 787, 788, 789, 790, 791, 792] (by decide +kernel) (by decide +kernel)
set_option maxRecDepth 20000 in
theorem gL_law_X10_count : GoodIn wsL_law (wsV RL 97 RX10 yX10_count wsX10_count) := goodIn_app (goodIn_of _ (by decide +kernel)) ggL_law_X10_count
