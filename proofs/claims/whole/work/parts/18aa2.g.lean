/-! The law's calls, words 1. -/
set_option maxRecDepth 20000 in
theorem ggL_law_X5_init : GoodIn wsL_law wsX5_init := goodIn_r _ [8, 9, 10, 11, 12, 13, 14, 15, 16, 17, 18, 19, 20, 21, 22, 23, 24, 25, 26, 27, 28, 29, 30, 31, 32, 33, 34, 35, 36, 37, 38, 39, 40, 41, 42, 43, 44, 45, 46, 47, 48, 49, 50, 51, 52, 53, 54, 55, 56, 57, 58, 59, 60, 61, 62, 63, 64, 65, 66, 67, 68, 69, 70, 71, 72, 73, 74, 75, 76, 77, 78, 79, 80, 81, 82, 83, 84, 85, 86, 87, 88, 89, 90, 91, 92, 93, 94, 95, 96, 97, 98, 99, 100, 101, 102, 103, 104, 105, 106, 107, 108, 109, 110, 111, 112, 113, 114, 115, 116, 117, 118, 119, 120, 121, 122, 123, 124, 125, 126, 127, 128, 129, 130, 131, 132, 133, 134, 135, 136, 2, 137, 138, 139, 140, 141, 142, 143, 144, 145, 146, 147, 148, 149, 150, 151, 152, 153, 154, 155, 156, 157, 158, 159, 160, 161, 162, 163, 164, 165, 166, 167, 168, 169, 170, 171, 172, 173, 174, 175, 176, 177, 178, 179, 180, 181, 182, 183, 184, 185, 186, 187, 188, 189, 190, 191, 192, 193, 194, 195, 196, 197, 198, 199, 200, 201, 202, 203, 204, 205, 206, 207, 208, 209, 210, 211, 212, 213, 214, 772, 773, 774, 775, 776, 777, 778, 779, 780, 781, 782, 783, 784, 785, 801, 802, 803, 804, 805, 806, 807, 808, 809, 810, 811, 812, 813, 814, 815, 816, 817, 818, 819, 820, 821, 822, 823, 824, 825] (by decide +kernel) (by decide +kernel)
set_option maxRecDepth 20000 in
theorem gL_law_X5_init : GoodIn wsL_law (wsX5_init) := ggL_law_X5_init
set_option maxRecDepth 20000 in
theorem ggL_law_X6_init : GoodIn wsL_law wsX6_init := goodIn_r _ [217, 218, 10, 11, 12, 219, 220, 221, 222, 223, 224, 225, 226, 227, 228, 229, 5, 230, 231, 232, 233, 234, 235, 236, 237, 238, 239, 240, 241, 786, 787, 788, 789, 790, 791, 792, 793, 794, 795, 796, 797, 798, 799, 800] (by decide +kernel) (by decide +kernel)
set_option maxRecDepth 20000 in
theorem gL_law_X6_init : GoodIn wsL_law (wsX6_init) := ggL_law_X6_init
set_option maxRecDepth 20000 in
theorem ggL_law_X5_write : GoodIn wsL_law wsX5_write := goodIn_r _ [245, 14, 13, 246, 168, 2, 169, 772, 773, 774, 775, 776, 777, 778, 779, 780, 781, 782, 783, 784, 785] (by decide +kernel) (by decide +kernel)
set_option maxRecDepth 20000 in
theorem gL_law_X5_write : GoodIn wsL_law (wsV RL 13 RX5 yX5_write wsX5_write) := goodIn_app (goodIn_of _ (by decide +kernel)) ggL_law_X5_write
set_option maxRecDepth 20000 in
theorem ggL_law_X6_write : GoodIn wsL_law wsX6_write := goodIn_r _ [250, 251, 252, 253, 221, 254, 255, 5, 256, 786, 787, 788, 789, 790, 791, 792, 793, 794, 795, 796, 797, 798, 799, 800] (by decide +kernel) (by decide +kernel)
set_option maxRecDepth 20000 in
theorem gL_law_X6_write : GoodIn wsL_law (wsV RL 17 RX6 yX6_write wsX6_write) := goodIn_app (goodIn_of _ (by decide +kernel)) ggL_law_X6_write
set_option maxRecDepth 20000 in
theorem ggL_law_X5_wipe : GoodIn wsL_law wsX5_wipe := goodIn_r _ [260, 14, 772, 773, 774, 775, 776, 777, 778, 779, 780, 781, 782, 783, 784, 785] (by decide +kernel) (by decide +kernel)
set_option maxRecDepth 20000 in
theorem gL_law_X5_wipe : GoodIn wsL_law (wsV RL 18 RX5 yX5_wipe wsX5_wipe) := goodIn_app (goodIn_of _ (by decide +kernel)) ggL_law_X5_wipe
set_option maxRecDepth 20000 in
theorem ggL_law_X6_wipe : GoodIn wsL_law wsX6_wipe := goodIn_r _ [264, 253, 786, 787, 788, 789, 790, 791, 792, 793, 794, 795, 796, 797, 798, 799, 800] (by decide +kernel) (by decide +kernel)
set_option maxRecDepth 20000 in
theorem gL_law_X6_wipe : GoodIn wsL_law (wsV RL 22 RX6 yX6_wipe wsX6_wipe) := goodIn_app (goodIn_of _ (by decide +kernel)) ggL_law_X6_wipe
set_option maxRecDepth 20000 in
theorem ggL_law_X5_fault : GoodIn wsL_law wsX5_fault := goodIn_r _ [268, 18, 23, 13, 14, 139, 140, 141, 17, 142, 143, 43, 44, 45, 50, 144, 145, 146, 21, 147, 148, 149, 150, 151, 152, 153, 154, 155, 156, 157, 158, 159, 160, 161, 162, 163, 164, 165, 166, 167, 49, 168, 2, 169, 170, 171, 172, 173, 174, 175, 176, 177, 178, 179, 180, 181, 182, 183, 184, 185, 186, 187, 54, 55, 56, 57, 58, 59, 188, 189, 190, 191, 772, 773, 774, 775, 776, 777, 778, 779, 780, 781, 782, 783, 784, 785, 801, 802, 803, 804, 805, 806, 807, 808, 809, 810, 811, 812, 813] (by decide +kernel) (by decide +kernel)
set_option maxRecDepth 20000 in
theorem gL_law_X5_fault : GoodIn wsL_law (wsV RL 23 RX5 yX5_fault wsX5_fault) := goodIn_app (goodIn_of _ (by decide +kernel)) ggL_law_X5_fault
set_option maxRecDepth 20000 in
theorem ggL_law_X6_fault : GoodIn wsL_law wsX6_fault := goodIn_r _ [272, 273, 274, 275, 5, 276, 277, 253, 227, 228, 229, 230, 219, 278, 279, 280, 281, 222, 282, 283, 284, 285, 286, 287, 221, 288, 289, 290, 291, 292, 293, 254, 255, 256, 231, 232, 233, 234, 294, 295, 296, 297, 786, 787, 788, 789, 790, 791, 792, 793, 794, 795, 796, 797, 798, 799, 800] (by decide +kernel) (by decide +kernel)
set_option maxRecDepth 20000 in
theorem gL_law_X6_fault : GoodIn wsL_law (wsV RL 26 RX6 yX6_fault wsX6_fault) := goodIn_app (goodIn_of _ (by decide +kernel)) ggL_law_X6_fault
set_option maxRecDepth 20000 in
theorem ggL_law_X5_lay : GoodIn wsL_law wsX5_lay := goodIn_r _ [301, 134, 135, 136, 2, 137, 18, 23, 13, 14, 22, 27, 31, 32, 35, 138, 139, 140, 141, 17, 142, 143, 43, 44, 45, 50, 144, 145, 146, 21, 147, 148, 149, 150, 151, 152, 153, 154, 155, 156, 157, 158, 159, 160, 161, 162, 163, 164, 165, 166, 167, 49, 168, 169, 170, 171, 172, 173, 174, 175, 176, 177, 178, 179, 180, 181, 182, 183, 184, 185, 186, 187, 54, 55, 56, 57, 58, 59, 188, 189, 190, 191, 192, 193, 194, 195, 196, 197, 198, 199, 200, 201, 202, 203, 26, 204, 205, 63, 206, 64, 207, 208, 209, 210, 211, 212, 213, 30, 214, 70, 772, 773, 774, 775, 776, 777, 778, 779, 780, 781, 782, 783, 784, 785, 803, 804, 805, 806, 807, 808, 809, 810, 811, 812, 813, 801, 802, 814, 815, 816, 817, 818, 819, 820] (by decide +kernel) (by decide +kernel)
set_option maxRecDepth 20000 in
theorem gL_law_X5_lay : GoodIn wsL_law (wsV RL 27 RX5 yX5_lay wsX5_lay) := goodIn_app (goodIn_of _ (by decide +kernel)) ggL_law_X5_lay
set_option maxRecDepth 20000 in
theorem ggL_law_X6_lay : GoodIn wsL_law wsX6_lay := goodIn_r _ [305, 219, 273, 274, 275, 5, 276, 277, 253, 227, 228, 229, 230, 278, 279, 280, 281, 222, 282, 283, 284, 285, 286, 287, 221, 288, 289, 290, 291, 292, 293, 254, 255, 256, 231, 232, 233, 234, 294, 295, 296, 297, 235, 236, 237, 238, 220, 239, 240, 241, 786, 787, 788, 789, 790, 791, 792, 793, 794, 795, 796, 797, 798, 799, 800] (by decide +kernel) (by decide +kernel)
set_option maxRecDepth 20000 in
theorem gL_law_X6_lay : GoodIn wsL_law (wsV RL 30 RX6 yX6_lay wsX6_lay) := goodIn_app (goodIn_of _ (by decide +kernel)) ggL_law_X6_lay
set_option maxRecDepth 20000 in
theorem ggL_law_X5_desk : GoodIn wsL_law wsX5_desk := goodIn_r _ [309, 22, 310, 311, 312, 27, 313, 314, 315, 189, 190, 21, 191, 148, 772, 773, 774, 775, 776, 777, 778, 779, 780, 781, 782, 783, 784, 785, 803, 804, 805, 806, 807, 808, 809, 810, 811, 812, 813, 814, 815, 816, 817] (by decide +kernel) (by decide +kernel)
set_option maxRecDepth 20000 in
theorem gL_law_X5_desk : GoodIn wsL_law (wsV RL 31 RX5 yX5_desk wsX5_desk) := goodIn_app (goodIn_of _ (by decide +kernel)) ggL_law_X5_desk
set_option maxRecDepth 20000 in
theorem ggL_law_X6_desk : GoodIn wsL_law wsX6_desk := goodIn_r _ [319, 320, 220, 219, 321, 322, 323, 5, 324, 254, 255, 256, 786, 787, 788, 789, 790, 791, 792, 793, 794, 795, 796, 797, 798, 799, 800] (by decide +kernel) (by decide +kernel)
set_option maxRecDepth 20000 in
theorem gL_law_X6_desk : GoodIn wsL_law (wsV RL 35 RX6 yX6_desk wsX6_desk) := goodIn_app (goodIn_of _ (by decide +kernel)) ggL_law_X6_desk
set_option maxRecDepth 20000 in
theorem ggL_law_X5_off : GoodIn wsL_law wsX5_off := goodIn_r _ [328, 27, 329, 22, 330, 315, 189, 190, 21, 191, 148, 772, 773, 774, 775, 776, 777, 778, 779, 780, 781, 782, 783, 784, 785, 814, 815, 816, 817, 803, 804, 805, 806, 807, 808, 809, 810, 811, 812, 813] (by decide +kernel) (by decide +kernel)
set_option maxRecDepth 20000 in
theorem gL_law_X5_off : GoodIn wsL_law (wsV RL 36 RX5 yX5_off wsX5_off) := goodIn_app (goodIn_of _ (by decide +kernel)) ggL_law_X5_off
set_option maxRecDepth 20000 in
theorem ggL_law_X6_off : GoodIn wsL_law wsX6_off := goodIn_r _ [334, 220, 321, 322, 323, 5, 324, 219, 254, 255, 256, 786, 787, 788, 789, 790, 791, 792, 793, 794, 795, 796, 797, 798, 799, 800] (by decide +kernel) (by decide +kernel)
set_option maxRecDepth 20000 in
theorem gL_law_X6_off : GoodIn wsL_law (wsV RL 39 RX6 yX6_off wsX6_off) := goodIn_app (goodIn_of _ (by decide +kernel)) ggL_law_X6_off
set_option maxRecDepth 20000 in
theorem ggL_law_X5_tune : GoodIn wsL_law wsX5_tune := goodIn_r _ [338, 31, 27, 39, 22, 339, 340, 341, 2, 342, 343, 344, 345, 21, 346, 148, 246, 168, 169, 347, 348, 349, 30, 350, 75, 69, 70, 351, 43, 44, 45, 352, 353, 354, 26, 355, 63, 64, 209, 210, 356, 357, 358, 38, 359, 80, 360, 361, 362, 363, 72, 73, 364, 365, 366, 367, 368, 369, 370, 54, 371, 372, 373, 374, 375, 376, 377, 378, 379, 380, 381, 382, 383, 384, 81, 385, 189, 190, 191, 386, 387, 388, 389, 55, 200, 390, 391, 392, 393, 394, 395, 396, 397, 82, 398, 83, 399, 84, 400, 401, 402, 403, 42, 404, 405, 406, 407, 408, 409, 205, 410, 411, 412, 413, 772, 773, 774, 775, 776, 777, 778, 779, 780, 781, 782, 783, 784, 785, 803, 804, 805, 806, 807, 808, 809, 810, 811, 812, 813, 818, 819, 820, 814, 815, 816, 817, 821, 822, 823, 824, 825] (by decide +kernel) (by decide +kernel)
set_option maxRecDepth 20000 in
theorem gL_law_X5_tune : GoodIn wsL_law (wsV RL 40 RX5 yX5_tune wsX5_tune) := goodIn_app (goodIn_of _ (by decide +kernel)) ggL_law_X5_tune
