/-! the law: what its calls need is among its words -/
set_option maxRecDepth 20000 in
theorem ggL_law_X10_adds : GoodIn wsL_law wsX10_adds := goodIn_r _ [523, 115, 303, 304, 305, 5, 306, 250, 151, 152, 153, 307, 308, 309, 310, 471, 472, 473, 474, 116, 475, 251, 756, 757, 758, 759, 760, 761, 762, 763, 764, 765, 766, 767, 768, 769, 770, 771, 772, 773, 774, 775, 776, 777, 778, 779, 780, 781, 782, 783, 784, 785, 786, 787, 788, 789, 790, 791, 792] (by decide +kernel) (by decide +kernel)
set_option maxRecDepth 20000 in
theorem gL_law_X10_adds : GoodIn wsL_law (wsV RL 56 RX10 yX10_adds wsX10_adds) := goodIn_app (goodIn_of _ (by decide +kernel)) ggL_law_X10_adds
set_option maxRecDepth 20000 in
theorem ggL_law_X9_undo : GoodIn wsL_law wsX9_undo := goodIn_r _ [527, 28, 23, 528, 529, 530, 27, 531, 82, 80, 79, 78, 448, 449, 450, 451, 81, 452, 453, 454, 455, 532, 496, 497, 67, 498, 74, 220, 221, 222, 533, 224, 225, 226, 73, 227, 228, 229, 230, 743, 744, 745, 746, 747, 748, 749, 750, 751, 752, 753, 754, 755, 803, 804, 805, 806, 807, 798, 799, 800, 801, 802, 824, 825] (by decide +kernel) (by decide +kernel)
set_option maxRecDepth 20000 in
theorem gL_law_X9_undo : GoodIn wsL_law (wsV RL 57 RX9 yX9_undo wsX9_undo) := goodIn_app (goodIn_of _ (by decide +kernel)) ggL_law_X9_undo
set_option maxRecDepth 20000 in
theorem ggL_law_X10_undo : GoodIn wsL_law wsX10_undo := goodIn_r _ [537, 251, 475, 115, 116, 756, 757, 758, 759, 760, 761, 762, 763, 764, 765, 766, 767, 768, 769, 770, 771, 772, 773, 774, 775, 776, 777, 778, 779, 780, 781, 782, 783, 784, 785, 786, 787, 788, 789, 790, 791, 792] (by decide +kernel) (by decide +kernel)
set_option maxRecDepth 20000 in
theorem gL_law_X10_undo : GoodIn wsL_law (wsV RL 60 RX10 yX10_undo wsX10_undo) := goodIn_app (goodIn_of _ (by decide +kernel)) ggL_law_X10_undo
set_option maxRecDepth 20000 in
theorem ggL_law_X9_meet : GoodIn wsL_law wsX9_meet := goodIn_r _ [541, 483, 484, 485, 2, 486, 291, 292, 293, 294, 23, 542, 543, 544, 545, 41, 42, 322, 323, 324, 40, 325, 326, 104, 327, 328, 329, 22, 330, 69, 62, 63, 64, 331, 332, 333, 45, 334, 335, 336, 337, 338, 339, 340, 341, 342, 99, 100, 101, 102, 320, 321, 343, 296, 297, 67, 298, 73, 227, 228, 229, 230, 74, 220, 221, 222, 344, 345, 346, 347, 348, 349, 350, 351, 352, 353, 354, 355, 356, 546, 547, 548, 549, 550, 551, 552, 553, 416, 417, 418, 419, 554, 555, 556, 557, 558, 559, 560, 561, 562, 743, 744, 745, 746, 747, 748, 749, 750, 751, 752, 753, 754, 755, 798, 799, 800, 801, 802, 814, 815, 816, 817, 818, 819, 820, 821, 822, 823, 824, 825] (by decide +kernel) (by decide +kernel)
set_option maxRecDepth 20000 in
theorem gL_law_X9_meet : GoodIn wsL_law (wsV RL 61 RX9 yX9_meet wsX9_meet) := goodIn_app (goodIn_of _ (by decide +kernel)) ggL_law_X9_meet
set_option maxRecDepth 20000 in
theorem ggL_law_X10_meet : GoodIn wsL_law wsX10_meet := goodIn_r _ [566, 303, 304, 305, 5, 306, 250, 151, 152, 153, 567, 568, 569, 570, 131, 127, 132, 128, 366, 367, 368, 369, 112, 113, 129, 114, 130, 370, 371, 372, 373, 374, 307, 308, 309, 310, 115, 311, 312, 313, 314, 375, 376, 377, 378, 379, 380, 381, 382, 383, 384, 428, 429, 430, 431, 571, 572, 573, 574, 756, 757, 758, 759, 760, 761, 762, 763, 764, 765, 766, 767, 768, 769, 770, 771, 772, 773, 774, 775, 776, 777, 778, 779, 780, 781, 782, 783, 784, 785, 786, 787, 788, 789, 790, 791, 792] (by decide +kernel) (by decide +kernel)
set_option maxRecDepth 20000 in
theorem gL_law_X10_meet : GoodIn wsL_law (wsV RL 64 RX10 yX10_meet wsX10_meet) := goodIn_app (goodIn_of _ (by decide +kernel)) ggL_law_X10_meet
set_option maxRecDepth 20000 in
theorem ggL_law_X9_fewest : GoodIn wsL_law wsX9_fewest := goodIn_r _ [578, 41, 23, 46, 291, 292, 293, 2, 294, 319, 320, 321, 579, 354, 355, 322, 323, 324, 40, 325, 326, 104, 327, 328, 329, 22, 330, 69, 62, 63, 64, 331, 332, 333, 45, 334, 335, 336, 337, 338, 339, 340, 341, 342, 99, 100, 101, 102, 343, 296, 297, 67, 298, 73, 227, 228, 229, 230, 74, 220, 221, 222, 344, 345, 346, 347, 348, 349, 350, 351, 352, 353, 356, 357, 358, 359, 360, 361, 580, 581, 582, 583, 584, 585, 493, 586, 587, 588, 589, 590, 591, 592, 593, 594, 595, 596, 597, 47, 598, 599, 600, 601, 602, 743, 744, 745, 746, 747, 748, 749, 750, 751, 752, 753, 754, 755, 798, 799, 800, 801, 802, 814, 815, 816, 817, 818, 819, 820, 821, 822, 823, 824, 825] (by decide +kernel) (by decide +kernel)
set_option maxRecDepth 20000 in
theorem gL_law_X9_fewest : GoodIn wsL_law (wsV RL 65 RX9 yX9_fewest wsX9_fewest) := goodIn_app (goodIn_of _ (by decide +kernel)) ggL_law_X9_fewest
set_option maxRecDepth 20000 in
theorem ggL_law_X10_fewest : GoodIn wsL_law wsX10_fewest := goodIn_r _ [606, 127, 128, 129, 130, 133, 371, 372, 373, 374, 303, 304, 305, 5, 306, 250, 151, 152, 153, 366, 367, 368, 369, 112, 113, 114, 370, 307, 308, 309, 310, 115, 311, 312, 313, 314, 375, 376, 377, 378, 379, 380, 381, 382, 383, 384, 607, 608, 609, 610, 611, 612, 613, 614, 615, 616, 617, 618, 619, 620, 621, 622, 623, 756, 757, 758, 759, 760, 761, 762, 763, 764, 765, 766, 767, 768, 769, 770, 771, 772, 773, 774, 775, 776, 777, 778, 779, 780, 781, 782, 783, 784, 785, 786, 787, 788, 789, 790, 791, 792] (by decide +kernel) (by decide +kernel)
set_option maxRecDepth 20000 in
theorem gL_law_X10_fewest : GoodIn wsL_law (wsV RL 69 RX10 yX10_fewest wsX10_fewest) := goodIn_app (goodIn_of _ (by decide +kernel)) ggL_law_X10_fewest
