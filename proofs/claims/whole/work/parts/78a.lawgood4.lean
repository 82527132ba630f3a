/-! the law: what its calls need is among its words -/
set_option maxRecDepth 20000 in
theorem ggL_law_X9_sees : GoodIn wsL_law wsX9_sees := goodIn_r _ [619, 23, 32, 319, 320, 2, 321, 571, 354, 355, 620, 621, 622, 31, 623, 89, 86, 87, 88, 735, 736, 737, 738, 739, 740, 741, 742, 743, 744, 745, 746, 747, 790, 791, 792, 793, 794, 800, 801, 802, 803] (by decide +kernel) (by decide +kernel)
set_option maxRecDepth 20000 in
theorem gL_law_X9_sees : GoodIn wsL_law (wsV RL 70 RX9 yX9_sees wsX9_sees) := goodIn_app (goodIn_of _ (by decide +kernel)) ggL_law_X9_sees
set_option maxRecDepth 20000 in
theorem ggL_law_X10_sees : GoodIn wsL_law wsX10_sees := goodIn_r _ [627, 250, 252, 117, 118, 151, 152, 5, 153, 748, 749, 750, 751, 752, 753, 754, 755, 756, 757, 758, 759, 760, 761, 762, 763, 764, 765, 766, 767, 768, 769, 770, 771, 772, 773, 774, 775, 776, 777, 778, 779, 780, 781, 782, 783, 784] (by decide +kernel) (by decide +kernel)
set_option maxRecDepth 20000 in
theorem gL_law_X10_sees : GoodIn wsL_law (wsV RL 73 RX10 yX10_sees wsX10_sees) := goodIn_app (goodIn_of _ (by decide +kernel)) ggL_law_X10_sees
set_option maxRecDepth 20000 in
theorem ggL_law_X9_forget : GoodIn wsL_law wsX9_forget := goodIn_r _ [631, 32, 235, 236, 237, 31, 238, 89, 735, 736, 737, 738, 739, 740, 741, 742, 743, 744, 745, 746, 747, 800, 801, 802, 803] (by decide +kernel) (by decide +kernel)
set_option maxRecDepth 20000 in
theorem gL_law_X9_forget : GoodIn wsL_law (wsV RL 74 RX9 yX9_forget wsX9_forget) := goodIn_app (goodIn_of _ (by decide +kernel)) ggL_law_X9_forget
set_option maxRecDepth 20000 in
theorem ggL_law_X10_forget : GoodIn wsL_law wsX10_forget := goodIn_r _ [635, 252, 748, 749, 750, 751, 752, 753, 754, 755, 756, 757, 758, 759, 760, 761, 762, 763, 764, 765, 766, 767, 768, 769, 770, 771, 772, 773, 774, 775, 776, 777, 778, 779, 780, 781, 782, 783, 784] (by decide +kernel) (by decide +kernel)
set_option maxRecDepth 20000 in
theorem gL_law_X10_forget : GoodIn wsL_law (wsV RL 77 RX10 yX10_forget wsX10_forget) := goodIn_app (goodIn_of _ (by decide +kernel)) ggL_law_X10_forget
set_option maxRecDepth 20000 in
theorem ggL_law_X9_unseen : GoodIn wsL_law wsX9_unseen := goodIn_r _ [639, 640, 641, 642, 2, 643, 23, 41, 32, 389, 390, 391, 67, 392, 74, 220, 221, 222, 322, 323, 324, 40, 325, 326, 104, 327, 328, 329, 22, 330, 69, 62, 63, 64, 331, 332, 333, 45, 334, 335, 336, 337, 338, 339, 340, 341, 342, 99, 100, 101, 102, 320, 321, 343, 296, 297, 298, 73, 227, 228, 229, 230, 344, 345, 346, 347, 348, 349, 350, 351, 352, 353, 354, 355, 356, 644, 645, 646, 31, 647, 89, 86, 87, 88, 648, 417, 418, 419, 735, 736, 737, 738, 739, 740, 741, 742, 743, 744, 745, 746, 747, 790, 791, 792, 793, 794, 816, 817, 806, 807, 808, 809, 810, 811, 812, 813, 814, 815, 800, 801, 802, 803] (by decide +kernel) (by decide +kernel)
set_option maxRecDepth 20000 in
theorem gL_law_X9_unseen : GoodIn wsL_law (wsV RL 78 RX9 yX9_unseen wsX9_unseen) := goodIn_app (goodIn_of _ (by decide +kernel)) ggL_law_X9_unseen
set_option maxRecDepth 20000 in
theorem ggL_law_X10_unseen : GoodIn wsL_law wsX10_unseen := goodIn_r _ [652, 252, 127, 117, 128, 118, 307, 308, 309, 5, 310, 115, 366, 367, 368, 369, 112, 113, 129, 114, 130, 370, 371, 372, 373, 374, 311, 312, 313, 314, 375, 376, 377, 378, 379, 380, 381, 382, 383, 384, 151, 152, 153, 748, 749, 750, 751, 752, 753, 754, 755, 756, 757, 758, 759, 760, 761, 762, 763, 764, 765, 766, 767, 768, 769, 770, 771, 772, 773, 774, 775, 776, 777, 778, 779, 780, 781, 782, 783, 784] (by decide +kernel) (by decide +kernel)
set_option maxRecDepth 20000 in
theorem gL_law_X10_unseen : GoodIn wsL_law (wsV RL 81 RX10 yX10_unseen wsX10_unseen) := goodIn_app (goodIn_of _ (by decide +kernel)) ggL_law_X10_unseen
set_option maxRecDepth 20000 in
theorem ggL_law_X9_look : GoodIn wsL_law wsX9_look := goodIn_r _ [656, 49, 640, 641, 642, 2, 643, 23, 41, 32, 389, 390, 391, 67, 392, 74, 220, 221, 222, 322, 323, 324, 40, 325, 326, 104, 327, 328, 329, 22, 330, 69, 62, 63, 64, 331, 332, 333, 45, 334, 335, 336, 337, 338, 339, 340, 341, 342, 99, 100, 101, 102, 320, 321, 343, 296, 297, 298, 73, 227, 228, 229, 230, 344, 345, 346, 347, 348, 349, 350, 351, 352, 353, 354, 355, 356, 644, 645, 646, 31, 647, 89, 86, 87, 88, 648, 417, 418, 419, 657, 658, 659, 660, 661, 662, 663, 664, 665, 666, 667, 668, 398, 399, 400, 669, 402, 403, 404, 405, 406, 407, 735, 736, 737, 738, 739, 740, 741, 742, 743, 744, 745, 746, 747, 790, 791, 792, 793, 794, 816, 817, 806, 807, 808, 809, 810, 811, 812, 813, 814, 815, 800, 801, 802, 803] (by decide +kernel) (by decide +kernel)
set_option maxRecDepth 20000 in
theorem gL_law_X9_look : GoodIn wsL_law (wsV RL 82 RX9 yX9_look wsX9_look) := goodIn_app (goodIn_of _ (by decide +kernel)) ggL_law_X9_look
