/-! the law: what its calls need is among its words -/
set_option maxRecDepth 20000 in
theorem ggL_law_X10_look : GoodIn wsL_law wsX10_look := goodIn_r _ [673, 674, 650, 651, 5, 652, 252, 127, 117, 128, 118, 307, 308, 309, 310, 115, 366, 367, 368, 369, 112, 113, 129, 114, 130, 370, 371, 372, 373, 374, 311, 312, 313, 314, 375, 376, 377, 378, 379, 380, 381, 382, 383, 384, 151, 152, 153, 675, 676, 677, 678, 679, 680, 681, 748, 749, 750, 751, 752, 753, 754, 755, 756, 757, 758, 759, 760, 761, 762, 763, 764, 765, 766, 767, 768, 769, 770, 771, 772, 773, 774, 775, 776, 777, 778, 779, 780, 781, 782, 783, 784] (by decide +kernel) (by decide +kernel)
set_option maxRecDepth 20000 in
theorem gL_law_X10_look : GoodIn wsL_law (wsV RL 85 RX10 yX10_look wsX10_look) := goodIn_app (goodIn_of _ (by decide +kernel)) ggL_law_X10_look
set_option maxRecDepth 20000 in
theorem ggL_law_X9_keep : GoodIn wsL_law wsX9_keep := goodIn_r _ [685, 23, 686, 687, 688, 2, 689, 36, 37, 690, 691, 692, 35, 693, 94, 95, 694, 695, 696, 67, 697, 454, 390, 391, 392, 74, 220, 221, 222, 487, 488, 489, 490, 455, 296, 297, 298, 73, 227, 228, 229, 230, 223, 224, 225, 226, 735, 736, 737, 738, 739, 740, 741, 742, 743, 744, 745, 746, 747, 790, 791, 792, 793, 794, 804, 805, 816, 817] (by decide +kernel) (by decide +kernel)
set_option maxRecDepth 20000 in
theorem gL_law_X9_keep : GoodIn wsL_law (wsV RL 86 RX9 yX9_keep wsX9_keep) := goodIn_app (goodIn_of _ (by decide +kernel)) ggL_law_X9_keep
set_option maxRecDepth 20000 in
theorem ggL_law_X10_keep : GoodIn wsL_law wsX10_keep := goodIn_r _ [701, 120, 121, 115, 250, 151, 152, 5, 153, 748, 749, 750, 751, 752, 753, 754, 755, 756, 757, 758, 759, 760, 761, 762, 763, 764, 765, 766, 767, 768, 769, 770, 771, 772, 773, 774, 775, 776, 777, 778, 779, 780, 781, 782, 783, 784] (by decide +kernel) (by decide +kernel)
set_option maxRecDepth 20000 in
theorem gL_law_X10_keep : GoodIn wsL_law (wsV RL 89 RX10 yX10_keep wsX10_keep) := goodIn_app (goodIn_of _ (by decide +kernel)) ggL_law_X10_keep
set_option maxRecDepth 20000 in
theorem ggL_law_X9_back : GoodIn wsL_law wsX9_back := goodIn_r _ [705, 23, 28, 686, 687, 688, 2, 689, 36, 37, 706, 695, 696, 67, 697, 454, 390, 391, 392, 74, 220, 221, 222, 487, 488, 489, 490, 455, 296, 297, 298, 73, 227, 228, 229, 230, 223, 224, 225, 226, 231, 232, 233, 27, 234, 82, 804, 805, 735, 736, 737, 738, 739, 740, 741, 742, 743, 744, 745, 746, 747, 790, 791, 792, 793, 794, 816, 817, 795, 796, 797, 798, 799] (by decide +kernel) (by decide +kernel)
set_option maxRecDepth 20000 in
theorem gL_law_X9_back : GoodIn wsL_law (wsV RL 90 RX9 yX9_back wsX9_back) := goodIn_app (goodIn_of _ (by decide +kernel)) ggL_law_X9_back
set_option maxRecDepth 20000 in
theorem ggL_law_X10_back : GoodIn wsL_law wsX10_back := goodIn_r _ [710, 120, 115, 121, 251, 250, 151, 152, 5, 153, 748, 749, 750, 751, 752, 753, 754, 755, 756, 757, 758, 759, 760, 761, 762, 763, 764, 765, 766, 767, 768, 769, 770, 771, 772, 773, 774, 775, 776, 777, 778, 779, 780, 781, 782, 783, 784] (by decide +kernel) (by decide +kernel)
set_option maxRecDepth 20000 in
theorem gL_law_X10_back : GoodIn wsL_law (wsV RL 93 RX10 yX10_back wsX10_back) := goodIn_app (goodIn_of _ (by decide +kernel)) ggL_law_X10_back
set_option maxRecDepth 20000 in
theorem ggL_law_X9_count : GoodIn wsL_law wsX9_count := goodIn_r _ [714, 23, 32, 15, 28, 715, 716, 717, 2, 718, 389, 390, 391, 67, 392, 74, 220, 221, 222, 719, 720, 721, 722, 41, 322, 323, 324, 40, 325, 326, 104, 327, 328, 329, 22, 330, 69, 62, 63, 64, 331, 332, 333, 45, 334, 335, 336, 337, 338, 339, 340, 341, 342, 99, 100, 101, 102, 320, 321, 343, 296, 297, 298, 73, 227, 228, 229, 230, 344, 345, 346, 347, 348, 349, 350, 351, 352, 353, 354, 355, 356, 723, 724, 725, 726, 534, 535, 536, 537, 42, 538, 539, 540, 541, 542, 543, 544, 545, 416, 417, 418, 419, 546, 547, 548, 549, 550, 551, 552, 553, 554, 142, 143, 144, 14, 145, 55, 735, 736, 737, 738, 739, 740, 741, 742, 743, 744, 745, 746, 747, 790, 791, 792, 793, 794, 800, 801, 802, 803, 795, 796, 797, 798, 799, 816, 817, 806, 807, 808, 809, 810, 811, 812, 813, 814, 815, 785, 786] (by decide +kernel) (by decide +kernel)
set_option maxRecDepth 20000 in
theorem gL_law_X9_count : GoodIn wsL_law (wsV RL 94 RX9 yX9_count wsX9_count) := goodIn_app (goodIn_of _ (by decide +kernel)) ggL_law_X9_count
set_option maxRecDepth 20000 in
theorem ggL_law_X10_count : GoodIn wsL_law wsX10_count := goodIn_r _ [730, 250, 252, 150, 251, 731, 732, 733, 5, 734, 370, 366, 367, 368, 369, 127, 112, 128, 113, 129, 114, 130, 371, 372, 373, 374, 307, 308, 309, 310, 115, 311, 312, 313, 314, 375, 376, 377, 378, 379, 380, 381, 382, 383, 384, 151, 152, 153, 559, 560, 561, 562, 131, 132, 428, 429, 430, 431, 563, 564, 565, 566, 748, 749, 750, 751, 752, 753, 754, 755, 756, 757, 758, 759, 760, 761, 762, 763, 764, 765, 766, 767, 768, 769, 770, 771, 772, 773, 774, 775, 776, 777, 778, 779, 780, 781, 782, 783, 784] (by decide +kernel) (by decide +kernel)
set_option maxRecDepth 20000 in
theorem gL_law_X10_count : GoodIn wsL_law (wsV RL 97 RX10 yX10_count wsX10_count) := goodIn_app (goodIn_of _ (by decide +kernel)) ggL_law_X10_count
