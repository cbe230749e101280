/-! The law's calls, words 4. -/
set_option maxRecDepth 20000 in
theorem ggL_law_X6_together : GoodIn wsL_law wsX6_together := goodIn_r _ [687, 688, 241, 225, 226, 418, 419, 420, 5, 421, 219, 254, 255, 256, 786, 787, 788, 789, 790, 791, 792, 793, 794, 795, 796, 797, 798, 799, 800] (by decide +kernel) (by decide +kernel)
set_option maxRecDepth 20000 in
theorem gL_law_X6_together : GoodIn wsL_law (wsV RL 104 RX6 yX6_together wsX6_together) := goodIn_app (goodIn_of _ (by decide +kernel)) ggL_law_X6_together
set_option maxRecDepth 20000 in
theorem ggL_law_X5_forget : GoodIn wsL_law wsX5_forget := goodIn_r _ [692, 35, 772, 773, 774, 775, 776, 777, 778, 779, 780, 781, 782, 783, 784, 785] (by decide +kernel) (by decide +kernel)
set_option maxRecDepth 20000 in
theorem gL_law_X5_forget : GoodIn wsL_law (wsV RL 105 RX5 yX5_forget wsX5_forget) := goodIn_app (goodIn_of _ (by decide +kernel)) ggL_law_X5_forget
set_option maxRecDepth 20000 in
theorem ggL_law_X6_forget : GoodIn wsL_law wsX6_forget := goodIn_r _ [696, 241, 786, 787, 788, 789, 790, 791, 792, 793, 794, 795, 796, 797, 798, 799, 800] (by decide +kernel) (by decide +kernel)
set_option maxRecDepth 20000 in
theorem gL_law_X6_forget : GoodIn wsL_law (wsV RL 108 RX6 yX6_forget wsX6_forget) := goodIn_app (goodIn_of _ (by decide +kernel)) ggL_law_X6_forget
set_option maxRecDepth 20000 in
theorem ggL_law_X5_high : GoodIn wsL_law wsX5_high := goodIn_r _ [700, 22, 138, 246, 168, 2, 169, 701, 702, 703, 704, 35, 33, 27, 330, 34, 705, 371, 372, 772, 773, 774, 775, 776, 777, 778, 779, 780, 781, 782, 783, 784, 785, 803, 804, 805, 806, 807, 808, 809, 810, 811, 812, 813, 814, 815, 816, 817] (by decide +kernel) (by decide +kernel)
set_option maxRecDepth 20000 in
theorem gL_law_X5_high : GoodIn wsL_law (wsV RL 109 RX5 yX5_high wsX5_high) := goodIn_app (goodIn_of _ (by decide +kernel)) ggL_law_X5_high
set_option maxRecDepth 20000 in
theorem ggL_law_X6_high : GoodIn wsL_law wsX6_high := goodIn_r _ [709, 219, 254, 255, 5, 256, 710, 711, 712, 713, 241, 225, 220, 226, 444, 445, 446, 786, 787, 788, 789, 790, 791, 792, 793, 794, 795, 796, 797, 798, 799, 800] (by decide +kernel) (by decide +kernel)
set_option maxRecDepth 20000 in
theorem gL_law_X6_high : GoodIn wsL_law (wsV RL 112 RX6 yX6_high wsX6_high) := goodIn_app (goodIn_of _ (by decide +kernel)) ggL_law_X6_high
set_option maxRecDepth 20000 in
theorem ggL_law_X5_odds : GoodIn wsL_law wsX5_odds := goodIn_r _ [717, 22, 40, 138, 246, 168, 2, 169, 718, 719, 720, 21, 721, 148, 54, 573, 574, 575, 576, 27, 41, 577, 353, 354, 26, 355, 63, 64, 209, 210, 578, 579, 580, 38, 581, 81, 82, 722, 723, 724, 725, 371, 372, 402, 403, 42, 43, 44, 45, 404, 72, 73, 533, 534, 535, 536, 205, 537, 538, 539, 540, 647, 374, 375, 376, 377, 378, 379, 726, 727, 728, 556, 557, 558, 559, 560, 561, 772, 773, 774, 775, 776, 777, 778, 779, 780, 781, 782, 783, 784, 785, 803, 804, 805, 806, 807, 808, 809, 810, 811, 812, 813, 814, 815, 816, 817, 821, 822, 823, 824, 825] (by decide +kernel) (by decide +kernel)
set_option maxRecDepth 20000 in
theorem gL_law_X5_odds : GoodIn wsL_law (wsV RL 113 RX5 yX5_odds wsX5_odds) := goodIn_app (goodIn_of _ (by decide +kernel)) ggL_law_X5_odds
set_option maxRecDepth 20000 in
theorem ggL_law_X6_odds : GoodIn wsL_law wsX6_odds := goodIn_r _ [732, 733, 219, 220, 254, 255, 5, 256, 426, 427, 428, 429, 444, 445, 446, 458, 459, 460, 545, 546, 547, 548, 549, 550, 551, 566, 567, 568, 786, 787, 788, 789, 790, 791, 792, 793, 794, 795, 796, 797, 798, 799, 800] (by decide +kernel) (by decide +kernel)
set_option maxRecDepth 20000 in
theorem gL_law_X6_odds : GoodIn wsL_law (wsV RL 116 RX6 yX6_odds wsX6_odds) := goodIn_app (goodIn_of _ (by decide +kernel)) ggL_law_X6_odds
set_option maxRecDepth 20000 in
theorem ggL_law_X5_evening : GoodIn wsL_law wsX5_evening := goodIn_r _ [737, 41, 22, 40, 138, 246, 168, 2, 169, 573, 574, 575, 576, 27, 577, 353, 354, 26, 355, 63, 64, 209, 210, 578, 579, 580, 38, 581, 81, 82, 738, 739, 740, 741, 83, 84, 582, 583, 584, 585, 586, 587, 588, 21, 589, 148, 58, 590, 357, 358, 359, 80, 360, 361, 362, 363, 72, 44, 73, 364, 365, 366, 367, 368, 369, 370, 54, 371, 372, 373, 374, 375, 376, 377, 378, 379, 380, 381, 382, 383, 384, 385, 189, 190, 191, 386, 387, 388, 389, 55, 200, 390, 391, 392, 393, 394, 395, 396, 397, 398, 399, 400, 401, 402, 403, 42, 43, 45, 404, 405, 406, 407, 408, 409, 205, 410, 411, 412, 413, 515, 516, 517, 518, 519, 520, 533, 534, 535, 536, 537, 538, 539, 540, 772, 773, 774, 775, 776, 777, 778, 779, 780, 781, 782, 783, 784, 785, 803, 804, 805, 806, 807, 808, 809, 810, 811, 812, 813, 814, 815, 816, 817, 821, 822, 823, 824, 825] (by decide +kernel) (by decide +kernel)
set_option maxRecDepth 20000 in
theorem gL_law_X5_evening : GoodIn wsL_law (wsV RL 117 RX5 yX5_evening wsX5_evening) := goodIn_app (goodIn_of _ (by decide +kernel)) ggL_law_X5_evening
set_option maxRecDepth 20000 in
theorem ggL_law_X6_evening : GoodIn wsL_law wsX6_evening := goodIn_r _ [745, 746, 434, 254, 255, 5, 256, 426, 427, 428, 429, 220, 430, 431, 432, 433, 224, 219, 435, 597, 598, 599, 600, 601, 602, 603, 604, 436, 437, 438, 439, 223, 440, 441, 442, 443, 444, 445, 446, 447, 448, 449, 450, 451, 452, 453, 454, 455, 456, 457, 458, 459, 460, 461, 462, 463, 464, 465, 466, 467, 468, 525, 526, 527, 528, 545, 546, 547, 548, 549, 550, 551, 786, 787, 788, 789, 790, 791, 792, 793, 794, 795, 796, 797, 798, 799, 800] (by decide +kernel) (by decide +kernel)
set_option maxRecDepth 20000 in
theorem gL_law_X6_evening : GoodIn wsL_law (wsV RL 120 RX6 yX6_evening wsX6_evening) := goodIn_app (goodIn_of _ (by decide +kernel)) ggL_law_X6_evening
set_option maxRecDepth 20000 in
theorem ggL_law_X5_keep : GoodIn wsL_law wsX5_keep := goodIn_r _ [750, 32, 502, 27, 347, 348, 349, 30, 350, 75, 69, 70, 351, 43, 44, 45, 352, 353, 354, 26, 355, 63, 64, 209, 210, 772, 773, 774, 775, 776, 777, 778, 779, 780, 781, 782, 783, 784, 785, 818, 819, 820, 814, 815, 816, 817] (by decide +kernel) (by decide +kernel)
set_option maxRecDepth 20000 in
theorem gL_law_X5_keep : GoodIn wsL_law (wsV RL 121 RX5 yX5_keep wsX5_keep) := goodIn_app (goodIn_of _ (by decide +kernel)) ggL_law_X5_keep
set_option maxRecDepth 20000 in
theorem ggL_law_X6_keep : GoodIn wsL_law wsX6_keep := goodIn_r _ [754, 240, 220, 786, 787, 788, 789, 790, 791, 792, 793, 794, 795, 796, 797, 798, 799, 800] (by decide +kernel) (by decide +kernel)
set_option maxRecDepth 20000 in
theorem gL_law_X6_keep : GoodIn wsL_law (wsV RL 124 RX6 yX6_keep wsX6_keep) := goodIn_app (goodIn_of _ (by decide +kernel)) ggL_law_X6_keep
set_option maxRecDepth 20000 in
theorem ggL_law_X5_back : GoodIn wsL_law wsX5_back := goodIn_r _ [758, 32, 27, 31, 502, 503, 504, 505, 30, 506, 70, 69, 75, 352, 353, 354, 26, 355, 63, 64, 209, 210, 211, 212, 213, 214, 772, 773, 774, 775, 776, 777, 778, 779, 780, 781, 782, 783, 784, 785, 818, 819, 820, 814, 815, 816, 817] (by decide +kernel) (by decide +kernel)
set_option maxRecDepth 20000 in
theorem gL_law_X5_back : GoodIn wsL_law (wsV RL 125 RX5 yX5_back wsX5_back) := goodIn_app (goodIn_of _ (by decide +kernel)) ggL_law_X5_back
set_option maxRecDepth 20000 in
theorem ggL_law_X6_back : GoodIn wsL_law wsX6_back := goodIn_r _ [762, 240, 220, 239, 786, 787, 788, 789, 790, 791, 792, 793, 794, 795, 796, 797, 798, 799, 800] (by decide +kernel) (by decide +kernel)
set_option maxRecDepth 20000 in
theorem gL_law_X6_back : GoodIn wsL_law (wsV RL 128 RX6 yX6_back wsX6_back) := goodIn_app (goodIn_of _ (by decide +kernel)) ggL_law_X6_back
set_option maxRecDepth 20000 in
theorem ggL_law_X5_count : GoodIn wsL_law wsX5_count := goodIn_r _ [766, 22, 138, 27, 477, 767, 35, 31, 502, 32, 14, 637, 772, 773, 774, 775, 776, 777, 778, 779, 780, 781, 782, 783, 784, 785, 803, 804, 805, 806, 807, 808, 809, 810, 811, 812, 813, 814, 815, 816, 817, 818, 819, 820] (by decide +kernel) (by decide +kernel)
set_option maxRecDepth 20000 in
theorem gL_law_X5_count : GoodIn wsL_law (wsV RL 129 RX5 yX5_count wsX5_count) := goodIn_app (goodIn_of _ (by decide +kernel)) ggL_law_X5_count
set_option maxRecDepth 20000 in
theorem ggL_law_X6_count : GoodIn wsL_law wsX6_count := goodIn_r _ [771, 219, 220, 241, 239, 240, 253, 786, 787, 788, 789, 790, 791, 792, 793, 794, 795, 796, 797, 798, 799, 800] (by decide +kernel) (by decide +kernel)
set_option maxRecDepth 20000 in
theorem gL_law_X6_count : GoodIn wsL_law (wsV RL 132 RX6 yX6_count wsX6_count) := goodIn_app (goodIn_of _ (by decide +kernel)) ggL_law_X6_count
