/-! The law's calls, words 2. -/
set_option maxRecDepth 20000 in
theorem ggL_law_X6_tune : GoodIn wsL_law wsX6_tune := goodIn_r _ [417, 418, 419, 420, 5, 421, 219, 254, 255, 256, 422, 423, 424, 425, 239, 220, 426, 427, 428, 429, 430, 431, 432, 433, 224, 434, 435, 436, 437, 438, 439, 223, 440, 441, 442, 443, 444, 445, 446, 447, 448, 449, 450, 451, 452, 453, 454, 455, 456, 457, 458, 459, 460, 461, 462, 463, 464, 465, 466, 467, 468, 469, 470, 471, 472, 786, 787, 788, 789, 790, 791, 792, 793, 794, 795, 796, 797, 798, 799, 800] (by decide +kernel) (by decide +kernel)
set_option maxRecDepth 20000 in
theorem gL_law_X6_tune : GoodIn wsL_law (wsV RL 43 RX6 yX6_tune wsX6_tune) := goodIn_app (goodIn_of _ (by decide +kernel)) ggL_law_X6_tune
set_option maxRecDepth 20000 in
theorem ggL_law_X5_minutes : GoodIn wsL_law wsX5_minutes := goodIn_r _ [476, 27, 477, 478, 31, 22, 246, 168, 2, 169, 347, 348, 349, 30, 350, 75, 69, 70, 351, 43, 44, 45, 352, 353, 354, 26, 355, 63, 64, 209, 210, 479, 406, 407, 408, 409, 205, 410, 411, 412, 21, 413, 54, 200, 189, 190, 191, 148, 402, 403, 42, 404, 72, 73, 772, 773, 774, 775, 776, 777, 778, 779, 780, 781, 782, 783, 784, 785, 814, 815, 816, 817, 818, 819, 820, 803, 804, 805, 806, 807, 808, 809, 810, 811, 812, 813] (by decide +kernel) (by decide +kernel)
set_option maxRecDepth 20000 in
theorem gL_law_X5_minutes : GoodIn wsL_law (wsV RL 44 RX5 yX5_minutes wsX5_minutes) := goodIn_app (goodIn_of _ (by decide +kernel)) ggL_law_X5_minutes
set_option maxRecDepth 20000 in
theorem ggL_law_X6_minutes : GoodIn wsL_law wsX6_minutes := goodIn_r _ [483, 282, 220, 484, 254, 255, 5, 256, 422, 423, 424, 425, 239, 426, 427, 428, 429, 461, 462, 463, 464, 219, 465, 466, 467, 468, 458, 459, 460, 469, 470, 471, 472, 786, 787, 788, 789, 790, 791, 792, 793, 794, 795, 796, 797, 798, 799, 800] (by decide +kernel) (by decide +kernel)
set_option maxRecDepth 20000 in
theorem gL_law_X6_minutes : GoodIn wsL_law (wsV RL 47 RX6 yX6_minutes wsX6_minutes) := goodIn_app (goodIn_of _ (by decide +kernel)) ggL_law_X6_minutes
set_option maxRecDepth 20000 in
theorem ggL_law_X5_hear : GoodIn wsL_law wsX5_hear := goodIn_r _ [488, 22, 31, 27, 313, 315, 189, 190, 21, 191, 148, 489, 197, 198, 199, 200, 347, 348, 349, 30, 350, 75, 69, 70, 351, 43, 44, 45, 352, 353, 354, 26, 355, 63, 64, 209, 210, 772, 773, 774, 775, 776, 777, 778, 779, 780, 781, 782, 783, 784, 785, 814, 815, 816, 817, 803, 804, 805, 806, 807, 808, 809, 810, 811, 812, 813, 818, 819, 820] (by decide +kernel) (by decide +kernel)
set_option maxRecDepth 20000 in
theorem gL_law_X5_hear : GoodIn wsL_law (wsV RL 48 RX5 yX5_hear wsX5_hear) := goodIn_app (goodIn_of _ (by decide +kernel)) ggL_law_X5_hear
set_option maxRecDepth 20000 in
theorem ggL_law_X6_hear : GoodIn wsL_law wsX6_hear := goodIn_r _ [493, 220, 321, 322, 323, 5, 324, 219, 254, 255, 256, 494, 495, 496, 497, 422, 423, 424, 425, 239, 786, 787, 788, 789, 790, 791, 792, 793, 794, 795, 796, 797, 798, 799, 800] (by decide +kernel) (by decide +kernel)
set_option maxRecDepth 20000 in
theorem gL_law_X6_hear : GoodIn wsL_law (wsV RL 51 RX6 yX6_hear wsX6_hear) := goodIn_app (goodIn_of _ (by decide +kernel)) ggL_law_X6_hear
set_option maxRecDepth 20000 in
theorem ggL_law_X5_undo : GoodIn wsL_law wsX5_undo := goodIn_r _ [501, 31, 27, 502, 503, 504, 505, 30, 506, 70, 69, 75, 352, 353, 354, 26, 355, 63, 64, 209, 210, 772, 773, 774, 775, 776, 777, 778, 779, 780, 781, 782, 783, 784, 785, 818, 819, 820, 814, 815, 816, 817] (by decide +kernel) (by decide +kernel)
set_option maxRecDepth 20000 in
theorem gL_law_X5_undo : GoodIn wsL_law (wsV RL 52 RX5 yX5_undo wsX5_undo) := goodIn_app (goodIn_of _ (by decide +kernel)) ggL_law_X5_undo
set_option maxRecDepth 20000 in
theorem ggL_law_X6_undo : GoodIn wsL_law wsX6_undo := goodIn_r _ [510, 239, 220, 786, 787, 788, 789, 790, 791, 792, 793, 794, 795, 796, 797, 798, 799, 800] (by decide +kernel) (by decide +kernel)
set_option maxRecDepth 20000 in
theorem gL_law_X6_undo : GoodIn wsL_law (wsV RL 55 RX6 yX6_undo wsX6_undo) := goodIn_app (goodIn_of _ (by decide +kernel)) ggL_law_X6_undo
set_option maxRecDepth 20000 in
theorem ggL_law_X5_spread : GoodIn wsL_law wsX5_spread := goodIn_r _ [514, 27, 22, 138, 515, 516, 517, 26, 518, 63, 519, 72, 44, 73, 520, 43, 45, 772, 773, 774, 775, 776, 777, 778, 779, 780, 781, 782, 783, 784, 785, 803, 804, 805, 806, 807, 808, 809, 810, 811, 812, 813, 814, 815, 816, 817] (by decide +kernel) (by decide +kernel)
set_option maxRecDepth 20000 in
theorem gL_law_X5_spread : GoodIn wsL_law (wsV RL 56 RX5 yX5_spread wsX5_spread) := goodIn_app (goodIn_of _ (by decide +kernel)) ggL_law_X5_spread
set_option maxRecDepth 20000 in
theorem ggL_law_X6_spread : GoodIn wsL_law wsX6_spread := goodIn_r _ [524, 525, 526, 527, 5, 528, 220, 219, 786, 787, 788, 789, 790, 791, 792, 793, 794, 795, 796, 797, 798, 799, 800] (by decide +kernel) (by decide +kernel)
set_option maxRecDepth 20000 in
theorem gL_law_X6_spread : GoodIn wsL_law (wsV RL 59 RX6 yX6_spread wsX6_spread) := goodIn_app (goodIn_of _ (by decide +kernel)) ggL_law_X6_spread
set_option maxRecDepth 20000 in
theorem ggL_law_X5_heard : GoodIn wsL_law wsX5_heard := goodIn_r _ [532, 27, 22, 533, 534, 535, 26, 536, 205, 63, 537, 538, 44, 539, 540, 772, 773, 774, 775, 776, 777, 778, 779, 780, 781, 782, 783, 784, 785, 803, 804, 805, 806, 807, 808, 809, 810, 811, 812, 813, 814, 815, 816, 817] (by decide +kernel) (by decide +kernel)
set_option maxRecDepth 20000 in
theorem gL_law_X5_heard : GoodIn wsL_law (wsV RL 60 RX5 yX5_heard wsX5_heard) := goodIn_app (goodIn_of _ (by decide +kernel)) ggL_law_X5_heard
set_option maxRecDepth 20000 in
theorem ggL_law_X6_heard : GoodIn wsL_law wsX6_heard := goodIn_r _ [544, 545, 546, 547, 5, 548, 219, 220, 549, 550, 551, 786, 787, 788, 789, 790, 791, 792, 793, 794, 795, 796, 797, 798, 799, 800] (by decide +kernel) (by decide +kernel)
set_option maxRecDepth 20000 in
theorem gL_law_X6_heard : GoodIn wsL_law (wsV RL 63 RX6 yX6_heard wsX6_heard) := goodIn_app (goodIn_of _ (by decide +kernel)) ggL_law_X6_heard
set_option maxRecDepth 20000 in
theorem ggL_law_X5_mean : GoodIn wsL_law wsX5_mean := goodIn_r _ [555, 22, 138, 27, 330, 246, 168, 2, 169, 556, 557, 558, 404, 72, 44, 73, 559, 560, 561, 772, 773, 774, 775, 776, 777, 778, 779, 780, 781, 782, 783, 784, 785, 803, 804, 805, 806, 807, 808, 809, 810, 811, 812, 813, 814, 815, 816, 817] (by decide +kernel) (by decide +kernel)
set_option maxRecDepth 20000 in
theorem gL_law_X5_mean : GoodIn wsL_law (wsV RL 64 RX5 yX5_mean wsX5_mean) := goodIn_app (goodIn_of _ (by decide +kernel)) ggL_law_X5_mean
set_option maxRecDepth 20000 in
theorem ggL_law_X6_mean : GoodIn wsL_law wsX6_mean := goodIn_r _ [565, 219, 220, 254, 255, 5, 256, 566, 567, 568, 786, 787, 788, 789, 790, 791, 792, 793, 794, 795, 796, 797, 798, 799, 800] (by decide +kernel) (by decide +kernel)
set_option maxRecDepth 20000 in
theorem gL_law_X6_mean : GoodIn wsL_law (wsV RL 67 RX6 yX6_mean wsX6_mean) := goodIn_app (goodIn_of _ (by decide +kernel)) ggL_law_X6_mean
set_option maxRecDepth 20000 in
theorem ggL_law_X5_round : GoodIn wsL_law wsX5_round := goodIn_r _ [572, 22, 41, 40, 138, 315, 189, 190, 21, 191, 148, 573, 574, 575, 2, 576, 27, 577, 353, 354, 26, 355, 63, 64, 209, 210, 578, 579, 580, 38, 581, 81, 82, 582, 583, 584, 585, 586, 587, 588, 589, 58, 590, 357, 358, 359, 80, 360, 361, 362, 363, 72, 44, 73, 364, 365, 366, 367, 368, 369, 370, 54, 371, 372, 373, 374, 375, 376, 377, 378, 379, 380, 381, 382, 383, 384, 385, 386, 387, 388, 389, 55, 200, 390, 391, 392, 393, 394, 395, 396, 397, 398, 83, 399, 84, 400, 401, 402, 403, 42, 43, 45, 404, 405, 406, 407, 408, 409, 205, 410, 411, 412, 413, 515, 516, 517, 518, 519, 520, 591, 772, 773, 774, 775, 776, 777, 778, 779, 780, 781, 782, 783, 784, 785, 803, 804, 805, 806, 807, 808, 809, 810, 811, 812, 813, 814, 815, 816, 817, 821, 822, 823, 824, 825] (by decide +kernel) (by decide +kernel)
set_option maxRecDepth 20000 in
theorem gL_law_X5_round : GoodIn wsL_law (wsV RL 68 RX5 yX5_round wsX5_round) := goodIn_app (goodIn_of _ (by decide +kernel)) ggL_law_X5_round
set_option maxRecDepth 20000 in
theorem ggL_law_X6_round : GoodIn wsL_law wsX6_round := goodIn_r _ [595, 596, 219, 220, 254, 255, 5, 256, 426, 427, 428, 429, 430, 431, 432, 433, 224, 434, 435, 597, 598, 599, 600, 601, 602, 603, 604, 436, 437, 438, 439, 223, 440, 441, 442, 443, 444, 445, 446, 447, 448, 449, 450, 451, 452, 453, 454, 455, 456, 457, 458, 459, 460, 461, 462, 463, 464, 465, 466, 467, 468, 525, 526, 527, 528, 786, 787, 788, 789, 790, 791, 792, 793, 794, 795, 796, 797, 798, 799, 800] (by decide +kernel) (by decide +kernel)
set_option maxRecDepth 20000 in
theorem gL_law_X6_round : GoodIn wsL_law (wsV RL 71 RX6 yX6_round wsX6_round) := goodIn_app (goodIn_of _ (by decide +kernel)) ggL_law_X6_round
