/-! the law: what its calls need is among its words -/
set_option maxRecDepth 20000 in
theorem ggL_law_X9_mirrors : GoodIn wsL_law wsX9_mirrors := goodIn_r _ [443, 28, 23, 291, 292, 293, 2, 294, 444, 445, 446, 27, 447, 82, 81, 80, 79, 78, 448, 449, 450, 451, 452, 453, 454, 455, 456, 390, 391, 67, 392, 74, 220, 221, 222, 457, 296, 297, 298, 73, 227, 228, 229, 230, 458, 459, 460, 461, 462, 463, 464, 465, 466, 348, 349, 223, 224, 225, 226, 389, 743, 744, 745, 746, 747, 748, 749, 750, 751, 752, 753, 754, 755, 798, 799, 800, 801, 802, 803, 804, 805, 806, 807, 824, 825] (by decide +kernel) (by decide +kernel)
set_option maxRecDepth 20000 in
theorem gL_law_X9_mirrors : GoodIn wsL_law (wsV RL 41 RX9 yX9_mirrors wsX9_mirrors) := goodIn_app (goodIn_of _ (by decide +kernel)) ggL_law_X9_mirrors
set_option maxRecDepth 20000 in
theorem ggL_law_X10_mirrors : GoodIn wsL_law wsX10_mirrors := goodIn_r _ [470, 115, 303, 304, 305, 5, 306, 250, 151, 152, 153, 471, 472, 473, 474, 116, 475, 251, 307, 308, 309, 310, 311, 312, 313, 314, 476, 477, 478, 756, 757, 758, 759, 760, 761, 762, 763, 764, 765, 766, 767, 768, 769, 770, 771, 772, 773, 774, 775, 776, 777, 778, 779, 780, 781, 782, 783, 784, 785, 786, 787, 788, 789, 790, 791, 792] (by decide +kernel) (by decide +kernel)
set_option maxRecDepth 20000 in
theorem gL_law_X10_mirrors : GoodIn wsL_law (wsV RL 44 RX10 yX10_mirrors wsX10_mirrors) := goodIn_app (goodIn_of _ (by decide +kernel)) ggL_law_X10_mirrors
set_option maxRecDepth 20000 in
theorem ggL_law_X9_canons : GoodIn wsL_law wsX9_canons := goodIn_r _ [482, 28, 23, 483, 484, 485, 2, 486, 291, 292, 293, 294, 444, 445, 446, 27, 447, 82, 81, 80, 79, 78, 448, 449, 450, 451, 452, 453, 454, 455, 456, 390, 391, 67, 392, 74, 220, 221, 222, 457, 296, 297, 298, 73, 227, 228, 229, 230, 487, 488, 489, 490, 491, 492, 493, 494, 462, 495, 496, 497, 498, 463, 223, 224, 225, 226, 389, 743, 744, 745, 746, 747, 748, 749, 750, 751, 752, 753, 754, 755, 798, 799, 800, 801, 802, 803, 804, 805, 806, 807, 824, 825] (by decide +kernel) (by decide +kernel)
set_option maxRecDepth 20000 in
theorem gL_law_X9_canons : GoodIn wsL_law (wsV RL 45 RX9 yX9_canons wsX9_canons) := goodIn_app (goodIn_of _ (by decide +kernel)) ggL_law_X9_canons
set_option maxRecDepth 20000 in
theorem ggL_law_X10_canons : GoodIn wsL_law wsX10_canons := goodIn_r _ [502, 115, 303, 304, 305, 5, 306, 250, 151, 152, 153, 471, 472, 473, 474, 116, 475, 251, 307, 308, 309, 310, 311, 312, 313, 314, 756, 757, 758, 759, 760, 761, 762, 763, 764, 765, 766, 767, 768, 769, 770, 771, 772, 773, 774, 775, 776, 777, 778, 779, 780, 781, 782, 783, 784, 785, 786, 787, 788, 789, 790, 791, 792] (by decide +kernel) (by decide +kernel)
set_option maxRecDepth 20000 in
theorem gL_law_X10_canons : GoodIn wsL_law (wsV RL 48 RX10 yX10_canons wsX10_canons) := goodIn_app (goodIn_of _ (by decide +kernel)) ggL_law_X10_canons
set_option maxRecDepth 20000 in
theorem ggL_law_X9_changes : GoodIn wsL_law wsX9_changes := goodIn_r _ [506, 23, 28, 291, 292, 293, 2, 294, 507, 508, 509, 295, 296, 297, 67, 298, 73, 227, 228, 229, 230, 74, 220, 221, 222, 444, 445, 446, 27, 447, 82, 81, 80, 79, 78, 448, 449, 450, 451, 452, 453, 454, 455, 456, 390, 391, 392, 457, 510, 224, 225, 226, 743, 744, 745, 746, 747, 748, 749, 750, 751, 752, 753, 754, 755, 798, 799, 800, 801, 802, 824, 825, 803, 804, 805, 806, 807] (by decide +kernel) (by decide +kernel)
set_option maxRecDepth 20000 in
theorem gL_law_X9_changes : GoodIn wsL_law (wsV RL 49 RX9 yX9_changes wsX9_changes) := goodIn_app (goodIn_of _ (by decide +kernel)) ggL_law_X9_changes
set_option maxRecDepth 20000 in
theorem ggL_law_X10_changes : GoodIn wsL_law wsX10_changes := goodIn_r _ [514, 115, 303, 304, 305, 5, 306, 250, 151, 152, 153, 307, 308, 309, 310, 311, 312, 313, 314, 471, 472, 473, 474, 116, 475, 251, 756, 757, 758, 759, 760, 761, 762, 763, 764, 765, 766, 767, 768, 769, 770, 771, 772, 773, 774, 775, 776, 777, 778, 779, 780, 781, 782, 783, 784, 785, 786, 787, 788, 789, 790, 791, 792] (by decide +kernel) (by decide +kernel)
set_option maxRecDepth 20000 in
theorem gL_law_X10_changes : GoodIn wsL_law (wsV RL 52 RX10 yX10_changes wsX10_changes) := goodIn_app (goodIn_of _ (by decide +kernel)) ggL_law_X10_changes
set_option maxRecDepth 20000 in
theorem ggL_law_X9_adds : GoodIn wsL_law wsX9_adds := goodIn_r _ [518, 23, 28, 291, 292, 293, 2, 294, 507, 508, 509, 389, 390, 391, 67, 392, 74, 220, 221, 222, 444, 445, 446, 27, 447, 82, 81, 80, 79, 78, 448, 449, 450, 451, 452, 453, 454, 455, 456, 457, 296, 297, 298, 73, 227, 228, 229, 230, 519, 217, 218, 219, 223, 224, 225, 226, 743, 744, 745, 746, 747, 748, 749, 750, 751, 752, 753, 754, 755, 798, 799, 800, 801, 802, 824, 825, 803, 804, 805, 806, 807] (by decide +kernel) (by decide +kernel)
set_option maxRecDepth 20000 in
theorem gL_law_X9_adds : GoodIn wsL_law (wsV RL 53 RX9 yX9_adds wsX9_adds) := goodIn_app (goodIn_of _ (by decide +kernel)) ggL_law_X9_adds
