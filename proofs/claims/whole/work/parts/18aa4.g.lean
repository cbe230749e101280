/-! The law's calls, words 3. -/
set_option maxRecDepth 20000 in
theorem ggL_law_X5_halves : GoodIn wsL_law wsX5_halves := goodIn_r _ [608, 22, 609, 41, 40, 138, 246, 168, 2, 169, 343, 344, 345, 21, 346, 148, 573, 574, 575, 576, 27, 577, 353, 354, 26, 355, 63, 64, 209, 210, 578, 579, 580, 38, 581, 81, 82, 356, 357, 358, 359, 80, 360, 361, 362, 363, 72, 44, 73, 364, 365, 366, 367, 368, 369, 370, 54, 371, 372, 373, 374, 375, 376, 377, 378, 379, 380, 381, 382, 383, 384, 385, 189, 190, 191, 386, 387, 388, 389, 55, 200, 390, 391, 392, 393, 394, 395, 396, 397, 398, 83, 399, 84, 400, 401, 402, 403, 42, 43, 45, 404, 405, 406, 407, 408, 409, 205, 410, 411, 412, 413, 515, 516, 517, 518, 519, 520, 772, 773, 774, 775, 776, 777, 778, 779, 780, 781, 782, 783, 784, 785, 803, 804, 805, 806, 807, 808, 809, 810, 811, 812, 813, 814, 815, 816, 817, 821, 822, 823, 824, 825] (by decide +kernel) (by decide +kernel)
set_option maxRecDepth 20000 in
theorem gL_law_X5_halves : GoodIn wsL_law (wsV RL 72 RX5 yX5_halves wsX5_halves) := goodIn_app (goodIn_of _ (by decide +kernel)) ggL_law_X5_halves
set_option maxRecDepth 20000 in
theorem ggL_law_X6_halves : GoodIn wsL_law wsX6_halves := goodIn_r _ [613, 614, 219, 254, 255, 5, 256, 430, 431, 432, 433, 224, 434, 435, 426, 427, 428, 429, 220, 436, 437, 438, 439, 223, 440, 441, 442, 443, 444, 445, 446, 447, 448, 449, 450, 451, 452, 453, 454, 455, 456, 457, 458, 459, 460, 461, 462, 463, 464, 465, 466, 467, 468, 525, 526, 527, 528, 786, 787, 788, 789, 790, 791, 792, 793, 794, 795, 796, 797, 798, 799, 800] (by decide +kernel) (by decide +kernel)
set_option maxRecDepth 20000 in
theorem gL_law_X6_halves : GoodIn wsL_law (wsV RL 75 RX6 yX6_halves wsX6_halves) := goodIn_app (goodIn_of _ (by decide +kernel)) ggL_law_X6_halves
set_option maxRecDepth 20000 in
theorem ggL_law_X5_way : GoodIn wsL_law wsX5_way := goodIn_r _ [618, 22, 138, 27, 313, 315, 189, 190, 21, 191, 148, 246, 168, 2, 169, 619, 387, 388, 389, 55, 200, 772, 773, 774, 775, 776, 777, 778, 779, 780, 781, 782, 783, 784, 785, 803, 804, 805, 806, 807, 808, 809, 810, 811, 812, 813, 814, 815, 816, 817] (by decide +kernel) (by decide +kernel)
set_option maxRecDepth 20000 in
theorem gL_law_X5_way : GoodIn wsL_law (wsV RL 76 RX5 yX5_way wsX5_way) := goodIn_app (goodIn_of _ (by decide +kernel)) ggL_law_X5_way
set_option maxRecDepth 20000 in
theorem ggL_law_X6_way : GoodIn wsL_law wsX6_way := goodIn_r _ [623, 220, 219, 321, 322, 323, 5, 324, 254, 255, 256, 786, 787, 788, 789, 790, 791, 792, 793, 794, 795, 796, 797, 798, 799, 800] (by decide +kernel) (by decide +kernel)
set_option maxRecDepth 20000 in
theorem gL_law_X6_way : GoodIn wsL_law (wsV RL 79 RX6 yX6_way wsX6_way) := goodIn_app (goodIn_of _ (by decide +kernel)) ggL_law_X6_way
set_option maxRecDepth 20000 in
theorem ggL_law_X5_ear : GoodIn wsL_law wsX5_ear := goodIn_r _ [627, 22, 310, 609, 40, 313, 41, 330, 628, 538, 44, 539, 315, 189, 190, 21, 191, 148, 246, 168, 2, 169, 489, 197, 198, 199, 200, 573, 574, 575, 576, 27, 577, 353, 354, 26, 355, 63, 64, 209, 210, 578, 579, 580, 38, 581, 81, 82, 582, 583, 584, 585, 586, 587, 588, 589, 58, 590, 357, 358, 359, 80, 360, 361, 362, 363, 72, 73, 364, 365, 366, 367, 368, 369, 370, 54, 371, 372, 373, 374, 375, 376, 377, 378, 379, 380, 381, 382, 383, 384, 385, 386, 387, 388, 389, 55, 390, 391, 392, 393, 394, 395, 396, 397, 398, 83, 399, 84, 400, 401, 402, 403, 42, 43, 45, 404, 405, 406, 407, 408, 409, 205, 410, 411, 412, 413, 772, 773, 774, 775, 776, 777, 778, 779, 780, 781, 782, 783, 784, 785, 803, 804, 805, 806, 807, 808, 809, 810, 811, 812, 813, 814, 815, 816, 817, 821, 822, 823, 824, 825] (by decide +kernel) (by decide +kernel)
set_option maxRecDepth 20000 in
theorem gL_law_X5_ear : GoodIn wsL_law (wsV RL 80 RX5 yX5_ear wsX5_ear) := goodIn_app (goodIn_of _ (by decide +kernel)) ggL_law_X5_ear
set_option maxRecDepth 20000 in
theorem ggL_law_X6_ear : GoodIn wsL_law wsX6_ear := goodIn_r _ [632, 219, 220, 321, 322, 323, 5, 324, 254, 255, 256, 494, 495, 496, 497, 426, 427, 428, 429, 430, 431, 432, 433, 224, 434, 435, 597, 598, 599, 600, 601, 602, 603, 604, 436, 437, 438, 439, 223, 440, 441, 442, 443, 444, 445, 446, 447, 448, 449, 450, 451, 452, 453, 454, 455, 456, 457, 458, 459, 460, 461, 462, 463, 464, 465, 466, 467, 468, 549, 550, 551, 786, 787, 788, 789, 790, 791, 792, 793, 794, 795, 796, 797, 798, 799, 800] (by decide +kernel) (by decide +kernel)
set_option maxRecDepth 20000 in
theorem gL_law_X6_ear : GoodIn wsL_law (wsV RL 83 RX6 yX6_ear wsX6_ear) := goodIn_app (goodIn_of _ (by decide +kernel)) ggL_law_X6_ear
set_option maxRecDepth 20000 in
theorem ggL_law_X5_again : GoodIn wsL_law wsX5_again := goodIn_r _ [636, 40, 22, 138, 637, 573, 574, 575, 2, 576, 27, 41, 577, 353, 354, 26, 355, 63, 64, 209, 210, 578, 579, 580, 38, 581, 81, 82, 515, 516, 517, 518, 519, 72, 44, 73, 520, 43, 45, 479, 406, 407, 408, 409, 205, 410, 411, 412, 21, 413, 54, 200, 189, 190, 191, 148, 402, 403, 42, 404, 772, 773, 774, 775, 776, 777, 778, 779, 780, 781, 782, 783, 784, 785, 803, 804, 805, 806, 807, 808, 809, 810, 811, 812, 813, 814, 815, 816, 817, 821, 822, 823, 824, 825] (by decide +kernel) (by decide +kernel)
set_option maxRecDepth 20000 in
theorem gL_law_X5_again : GoodIn wsL_law (wsV RL 84 RX5 yX5_again wsX5_again) := goodIn_app (goodIn_of _ (by decide +kernel)) ggL_law_X5_again
set_option maxRecDepth 20000 in
theorem ggL_law_X6_again : GoodIn wsL_law wsX6_again := goodIn_r _ [641, 219, 426, 427, 428, 5, 429, 220, 525, 526, 527, 528, 461, 462, 463, 464, 465, 466, 467, 468, 458, 459, 460, 786, 787, 788, 789, 790, 791, 792, 793, 794, 795, 796, 797, 798, 799, 800] (by decide +kernel) (by decide +kernel)
set_option maxRecDepth 20000 in
theorem gL_law_X6_again : GoodIn wsL_law (wsV RL 87 RX6 yX6_again wsX6_again) := goodIn_app (goodIn_of _ (by decide +kernel)) ggL_law_X6_again
set_option maxRecDepth 20000 in
theorem ggL_law_X5_needles : GoodIn wsL_law wsX5_needles := goodIn_r _ [645, 22, 609, 40, 138, 41, 246, 168, 2, 169, 343, 344, 345, 21, 346, 148, 646, 368, 369, 370, 54, 371, 372, 647, 374, 375, 376, 377, 378, 379, 573, 574, 575, 576, 27, 577, 353, 354, 26, 355, 63, 64, 209, 210, 578, 579, 580, 38, 581, 81, 82, 648, 649, 650, 651, 582, 583, 584, 585, 586, 587, 588, 589, 58, 590, 357, 358, 359, 80, 360, 361, 362, 363, 72, 44, 73, 364, 365, 366, 367, 373, 380, 381, 382, 383, 384, 385, 189, 190, 191, 386, 387, 388, 389, 55, 200, 390, 391, 392, 393, 394, 395, 396, 397, 398, 83, 399, 84, 400, 401, 402, 403, 42, 43, 45, 404, 405, 406, 407, 408, 409, 205, 410, 411, 412, 413, 515, 516, 517, 518, 519, 520, 772, 773, 774, 775, 776, 777, 778, 779, 780, 781, 782, 783, 784, 785, 803, 804, 805, 806, 807, 808, 809, 810, 811, 812, 813, 814, 815, 816, 817, 821, 822, 823, 824, 825] (by decide +kernel) (by decide +kernel)
set_option maxRecDepth 20000 in
theorem gL_law_X5_needles : GoodIn wsL_law (wsV RL 88 RX5 yX5_needles wsX5_needles) := goodIn_app (goodIn_of _ (by decide +kernel)) ggL_law_X5_needles
set_option maxRecDepth 20000 in
theorem ggL_law_X6_needles : GoodIn wsL_law wsX6_needles := goodIn_r _ [655, 457, 219, 220, 254, 255, 5, 256, 447, 448, 449, 440, 441, 442, 443, 444, 445, 446, 426, 427, 428, 429, 430, 431, 432, 433, 224, 434, 435, 597, 598, 599, 600, 601, 602, 603, 604, 436, 437, 438, 439, 223, 450, 451, 452, 453, 454, 455, 456, 458, 459, 460, 461, 462, 463, 464, 465, 466, 467, 468, 525, 526, 527, 528, 786, 787, 788, 789, 790, 791, 792, 793, 794, 795, 796, 797, 798, 799, 800] (by decide +kernel) (by decide +kernel)
set_option maxRecDepth 20000 in
theorem gL_law_X6_needles : GoodIn wsL_law (wsV RL 91 RX6 yX6_needles wsX6_needles) := goodIn_app (goodIn_of _ (by decide +kernel)) ggL_law_X6_needles
set_option maxRecDepth 20000 in
theorem ggL_law_X5_blame : GoodIn wsL_law wsX5_blame := goodIn_r _ [659, 609, 22, 138, 41, 40, 246, 168, 2, 169, 573, 574, 575, 576, 27, 577, 353, 354, 26, 355, 63, 64, 209, 210, 578, 579, 580, 38, 581, 81, 82, 660, 661, 662, 663, 582, 583, 584, 585, 586, 587, 588, 21, 589, 148, 58, 590, 357, 358, 359, 80, 360, 361, 362, 363, 72, 44, 73, 364, 365, 366, 367, 368, 369, 370, 54, 371, 372, 373, 374, 375, 376, 377, 378, 379, 380, 381, 382, 383, 384, 385, 189, 190, 191, 386, 387, 388, 389, 55, 200, 390, 391, 392, 393, 394, 395, 396, 397, 398, 83, 399, 84, 400, 401, 402, 403, 42, 43, 45, 404, 405, 406, 407, 408, 409, 205, 410, 411, 412, 413, 515, 516, 517, 518, 519, 520, 772, 773, 774, 775, 776, 777, 778, 779, 780, 781, 782, 783, 784, 785, 803, 804, 805, 806, 807, 808, 809, 810, 811, 812, 813, 814, 815, 816, 817, 821, 822, 823, 824, 825] (by decide +kernel) (by decide +kernel)
set_option maxRecDepth 20000 in
theorem gL_law_X5_blame : GoodIn wsL_law (wsV RL 92 RX5 yX5_blame wsX5_blame) := goodIn_app (goodIn_of _ (by decide +kernel)) ggL_law_X5_blame
set_option maxRecDepth 20000 in
theorem ggL_law_X6_blame : GoodIn wsL_law wsX6_blame := goodIn_r _ [667, 219, 224, 254, 255, 5, 256, 426, 427, 428, 429, 220, 430, 431, 432, 433, 434, 435, 597, 598, 599, 600, 601, 602, 603, 604, 436, 437, 438, 439, 223, 440, 441, 442, 443, 444, 445, 446, 447, 448, 449, 450, 451, 452, 453, 454, 455, 456, 457, 458, 459, 460, 461, 462, 463, 464, 465, 466, 467, 468, 525, 526, 527, 528, 786, 787, 788, 789, 790, 791, 792, 793, 794, 795, 796, 797, 798, 799, 800] (by decide +kernel) (by decide +kernel)
set_option maxRecDepth 20000 in
theorem gL_law_X6_blame : GoodIn wsL_law (wsV RL 95 RX6 yX6_blame wsX6_blame) := goodIn_app (goodIn_of _ (by decide +kernel)) ggL_law_X6_blame
set_option maxRecDepth 20000 in
theorem ggL_law_X5_fifths : GoodIn wsL_law wsX5_fifths := goodIn_r _ [671, 609, 246, 168, 2, 169, 672, 673, 674, 628, 538, 44, 539, 404, 72, 73] (by decide +kernel) (by decide +kernel)
set_option maxRecDepth 20000 in
theorem gL_law_X5_fifths : GoodIn wsL_law (wsV RL 96 RX5 yX5_fifths wsX5_fifths) := goodIn_app (goodIn_of _ (by decide +kernel)) ggL_law_X5_fifths
set_option maxRecDepth 20000 in
theorem ggL_law_X6_fifths : GoodIn wsL_law wsX6_fifths := goodIn_r _ [678, 679, 254, 255, 5, 256, 549, 550, 551] (by decide +kernel) (by decide +kernel)
set_option maxRecDepth 20000 in
theorem gL_law_X6_fifths : GoodIn wsL_law (wsV RL 100 RX6 yX6_fifths wsX6_fifths) := goodIn_app (goodIn_of _ (by decide +kernel)) ggL_law_X6_fifths
set_option maxRecDepth 20000 in
theorem ggL_law_X5_together : GoodIn wsL_law wsX5_together := goodIn_r _ [683, 35, 33, 34, 339, 340, 341, 2, 342, 22, 343, 344, 345, 21, 346, 148, 246, 168, 169, 772, 773, 774, 775, 776, 777, 778, 779, 780, 781, 782, 783, 784, 785, 803, 804, 805, 806, 807, 808, 809, 810, 811, 812, 813] (by decide +kernel) (by decide +kernel)
set_option maxRecDepth 20000 in
theorem gL_law_X5_together : GoodIn wsL_law (wsV RL 101 RX5 yX5_together wsX5_together) := goodIn_app (goodIn_of _ (by decide +kernel)) ggL_law_X5_together
