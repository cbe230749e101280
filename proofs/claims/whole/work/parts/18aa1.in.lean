/-! The law's words are the tables' words: by their places. -/
theorem in_r {big ws : List Cond} (ps : List Nat) (hp : ws = ps.filterMap (fun i => big[i]?)) : ∀ w ∈ ws, w ∈ big := by
  intro w hw
  rw [hp] at hw
  obtain ⟨i, -, hi⟩ := List.mem_filterMap.mp hw
  exact List.mem_of_getElem? hi
theorem all_app {big a b : List Cond} (ha : ∀ w ∈ a, w ∈ big) (hb : ∀ w ∈ b, w ∈ big) : ∀ w ∈ a ++ b, w ∈ big := fun w h => (List.mem_append.mp h).elim (ha w) (hb w)
set_option maxRecDepth 20000 in
theorem wL_r1 : ∀ w ∈ wsL_law_r1, w ∈ lw_tbl := in_r [50, 51, 37, 638, 639, 48, 52, 53, 54, 55, 56, 57, 71, 323, 324, 58, 59, 38, 325, 72, 73, 39, 326, 327] (by decide +kernel)
set_option maxRecDepth 20000 in
theorem wL_r2 : ∀ w ∈ wsL_law_r2, w ∈ lw_tbl := in_r [134, 135, 40, 328, 160, 161, 41, 329, 330, 331, 332, 333, 183, 184, 43, 334, 335, 336, 256, 257, 42, 258, 61, 62] (by decide +kernel)
set_option maxRecDepth 20000 in
theorem wL_r3 : ∀ w ∈ wsL_law_r3, w ∈ lw_tbl := in_r [63, 64, 65, 75, 76, 77, 82, 84, 86, 89, 91, 94, 137, 138, 139, 140, 143, 162, 163, 164, 165, 173, 174, 166] (by decide +kernel)
set_option maxRecDepth 20000 in
theorem wL_r4 : ∀ w ∈ wsL_law_r4, w ∈ lw_tbl := in_r [167, 168, 169, 172, 186, 187, 188, 189, 191, 192, 193, 194, 195, 208, 209, 210, 44, 211, 942, 212, 213, 214, 215, 216] (by decide +kernel)
set_option maxRecDepth 20000 in
theorem wL_r5 : ∀ w ∈ wsL_law_r5, w ∈ lw_tbl := in_r [943, 218, 219, 220, 221, 222, 223, 224, 225, 226, 227, 45, 228, 229, 230, 231, 232, 234, 235, 46, 236, 237, 238, 47] (by decide +kernel)
set_option maxRecDepth 20000 in
theorem wL_r6 : ∀ w ∈ wsL_law_r6, w ∈ lw_tbl := in_r [239, 240, 241, 242, 243, 244, 245, 246, 247, 248, 249, 250, 252, 254, 259, 261, 0, 262, 81, 263, 264, 265, 266, 267] (by decide +kernel)
set_option maxRecDepth 20000 in
theorem wL_r7 : ∀ w ∈ wsL_law_r7, w ∈ lw_tbl := in_r [268, 269, 270, 271, 78, 97, 100, 103, 107, 272, 274, 1, 275, 276, 278, 2, 279, 280, 281, 282, 283, 285, 3, 286] (by decide +kernel)
set_option maxRecDepth 20000 in
theorem wL_r8 : ∀ w ∈ wsL_law_r8, w ∈ lw_tbl := in_r [288, 289, 290, 292, 4, 293, 93, 96, 99, 102, 105, 108, 294, 296, 5, 297, 298, 299, 300, 301, 302, 303, 304, 305] (by decide +kernel)
set_option maxRecDepth 20000 in
theorem wL_r9 : ∀ w ∈ wsL_law_r9, w ∈ lw_tbl := in_r [306, 307, 308, 309, 310, 311, 312, 313, 314, 315, 316, 317, 318, 79, 95, 90, 98, 146, 149, 319, 320, 321, 322, 640] (by decide +kernel)
set_option maxRecDepth 20000 in
theorem wL_r10 : ∀ w ∈ wsL_law_r10, w ∈ lw_tbl := in_r [641, 642, 643, 656, 657, 660, 663, 664, 665, 669, 670, 644, 646, 11, 647, 648, 650, 12, 651, 652, 654, 13, 655, 658] (by decide +kernel)
set_option maxRecDepth 20000 in
theorem wL_r11 : ∀ w ∈ wsL_law_r11, w ∈ lw_tbl := in_r [659, 668, 367, 368, 369, 370, 371, 702, 703, 704, 705, 706, 707, 661, 708, 709, 710, 372, 373, 374, 375, 711, 712, 713] (by decide +kernel)
set_option maxRecDepth 20000 in
theorem wL_r12 : ∀ w ∈ wsL_law_r12, w ∈ lw_tbl := in_r [714, 376, 377, 378, 379, 715, 716, 717, 718, 719, 721, 14, 722, 662, 723, 725, 15, 726, 737, 742, 727, 729, 16, 730] (by decide +kernel)
set_option maxRecDepth 20000 in
theorem wL_r13 : ∀ w ∈ wsL_law_r13, w ∈ lw_tbl := in_r [731, 733, 17, 734, 735, 736, 738, 740, 18, 741, 380, 381, 382, 383, 743, 744, 745, 746, 384, 385, 386, 387, 83, 85] (by decide +kernel)
set_option maxRecDepth 20000 in
theorem wL_r14 : ∀ w ∈ wsL_law_r14, w ∈ lw_tbl := in_r [87, 144, 92, 388, 747, 748, 749, 750, 755, 751, 753, 19, 754, 389, 390, 391, 392, 148, 142, 756, 757, 758, 759, 393] (by decide +kernel)
set_option maxRecDepth 20000 in
theorem wL_r15 : ∀ w ∈ wsL_law_r15, w ∈ lw_tbl := in_r [394, 395, 396, 397, 399, 6, 400, 401, 402, 403, 404, 405, 406, 407, 408, 413, 409, 410, 411, 412, 414, 415, 416, 417] (by decide +kernel)
set_option maxRecDepth 20000 in
theorem wL_r16 : ∀ w ∈ wsL_law_r16, w ∈ lw_tbl := in_r [80, 141, 88, 458, 145, 147, 101, 418, 419, 420, 421, 423, 424, 425, 426, 49, 427, 428, 429, 430, 431, 433, 435, 7] (by decide +kernel)
set_option maxRecDepth 20000 in
theorem wL_r17 : ∀ w ∈ wsL_law_r17, w ∈ lw_tbl := in_r [436, 437, 438, 439, 440, 441, 442, 443, 444, 445, 446, 448, 8, 449, 450, 451, 452, 453, 455, 456, 457, 459, 460, 461] (by decide +kernel)
set_option maxRecDepth 20000 in
theorem wL_r18 : ∀ w ∈ wsL_law_r18, w ∈ lw_tbl := in_r [462, 104, 463, 464, 465, 466, 760, 761, 762, 763, 764, 766, 20, 767, 768, 770, 21, 771, 772, 774, 22, 775, 776, 778] (by decide +kernel)
set_option maxRecDepth 20000 in
theorem wL_r19 : ∀ w ∈ wsL_law_r19, w ∈ lw_tbl := in_r [23, 779, 666, 667, 780, 782, 24, 783, 784, 786, 25, 787, 788, 789, 790, 791, 792, 793, 794, 796, 26, 797, 798, 799] (by decide +kernel)
set_option maxRecDepth 20000 in
theorem wL_r20 : ∀ w ∈ wsL_law_r20, w ∈ lw_tbl := in_r [800, 801, 802, 803, 804, 805, 807, 27, 808, 809, 811, 28, 812, 813, 815, 29, 816, 468, 469, 470, 471, 150, 472, 473] (by decide +kernel)
set_option maxRecDepth 20000 in
theorem wL_r21 : ∀ w ∈ wsL_law_r21, w ∈ lw_tbl := in_r [817, 818, 819, 820, 821, 474, 475, 476, 477, 478, 822, 823, 824, 825, 826, 828, 30, 829, 479, 480, 481, 482, 175, 483] (by decide +kernel)
set_option maxRecDepth 20000 in
theorem wL_r22 : ∀ w ∈ wsL_law_r22, w ∈ lw_tbl := in_r [484, 485, 486, 830, 831, 832, 833, 487, 488, 489, 490, 491, 492, 493, 494, 495, 496, 834, 835, 836, 837, 838, 840, 31] (by decide +kernel)
set_option maxRecDepth 20000 in
theorem wL_r23 : ∀ w ∈ wsL_law_r23, w ∈ lw_tbl := in_r [841, 497, 498, 499, 500, 501, 502, 503, 504, 505, 506, 507, 109, 842, 843, 844, 845, 846, 848, 32, 849, 850, 851, 852] (by decide +kernel)
set_option maxRecDepth 20000 in
theorem wL_r24 : ∀ w ∈ wsL_law_r24, w ∈ lw_tbl := in_r [508, 509, 510, 511, 512, 513, 514, 515, 516, 517, 853, 854, 855, 856, 857, 858, 859, 518, 519, 520, 521, 522, 524, 9] (by decide +kernel)
set_option maxRecDepth 20000 in
theorem wL_r25 : ∀ w ∈ wsL_law_r25, w ∈ lw_tbl := in_r [525, 526, 527, 528, 529, 530, 531, 532, 533, 534, 535, 536, 537, 538, 539, 540, 860, 861, 862, 863, 864, 865, 867, 33] (by decide +kernel)
set_option maxRecDepth 20000 in
theorem wL_r26 : ∀ w ∈ wsL_law_r26, w ∈ lw_tbl := in_r [868, 869, 871, 34, 872, 541, 542, 543, 544, 545, 873, 874, 875, 876, 877, 546, 547, 548, 549, 550, 878, 879, 880, 881] (by decide +kernel)
set_option maxRecDepth 20000 in
theorem wL_r27 : ∀ w ∈ wsL_law_r27, w ∈ lw_tbl := in_r [551, 552, 553, 554, 555, 882, 883, 884, 885, 556, 557, 558, 559, 110, 886, 887, 888, 889, 560, 561, 562, 563, 564, 565] (by decide +kernel)
set_option maxRecDepth 20000 in
theorem wL_r28 : ∀ w ∈ wsL_law_r28, w ∈ lw_tbl := in_r [566, 567, 568, 569, 890, 891, 892, 893, 571, 572, 573, 574, 575, 576, 577, 578, 894, 895, 896, 897, 579, 580, 581, 582] (by decide +kernel)
set_option maxRecDepth 20000 in
theorem wL_r29 : ∀ w ∈ wsL_law_r29, w ∈ lw_tbl := in_r [583, 584, 585, 898, 899, 900, 901, 902, 586, 587, 588, 589, 903, 904, 905, 906, 907, 590, 591, 592, 593, 908, 909, 910] (by decide +kernel)
set_option maxRecDepth 20000 in
theorem wL_r30 : ∀ w ∈ wsL_law_r30, w ∈ lw_tbl := in_r [911, 594, 595, 596, 597, 598, 600, 10, 601, 602, 912, 913, 914, 915, 916, 918, 35, 919, 603, 604, 605, 606, 607, 608] (by decide +kernel)
set_option maxRecDepth 20000 in
theorem wL_r31 : ∀ w ∈ wsL_law_r31, w ∈ lw_tbl := in_r [609, 610, 611, 612, 613, 614, 615, 616, 617, 920, 921, 922, 923, 924, 618, 619, 620, 621, 622, 623, 624, 625, 925, 926] (by decide +kernel)
set_option maxRecDepth 20000 in
theorem wL_r32 : ∀ w ∈ wsL_law_r32, w ∈ lw_tbl := in_r [927, 928, 929, 626, 627, 628, 629, 930, 931, 932, 933, 630, 631, 632, 633, 934, 935, 936, 937, 634, 635, 636, 637, 106] (by decide +kernel)
set_option maxRecDepth 20000 in
theorem wL_r33 : ∀ w ∈ wsL_law_r33, w ∈ lw_tbl := in_r [938, 939, 940, 941] (by decide +kernel)
set_option maxRecDepth 20000 in
theorem wL_x5 : ∀ w ∈ wsX50, w ∈ lw_tbl := in_r [337, 339, 341, 343, 345, 347, 349, 351, 353, 355, 357, 359, 361, 363] (by decide +kernel)
set_option maxRecDepth 20000 in
theorem wL_x6 : ∀ w ∈ wsX60, w ∈ lw_tbl := in_r [671, 673, 675, 677, 679, 681, 683, 685, 687, 689, 691, 693, 695, 697, 699] (by decide +kernel)
set_option maxRecDepth 20000 in
theorem wL_x3 : ∀ w ∈ wsX30, w ∈ lw_tbl := in_r [66, 68] (by decide +kernel)
set_option maxRecDepth 20000 in
theorem wL_x0 : ∀ w ∈ wsX00, w ∈ lw_tbl := in_r [111, 113, 115, 117, 119, 121, 123, 125, 127, 129, 131] (by decide +kernel)
set_option maxRecDepth 20000 in
theorem wL_x2 : ∀ w ∈ wsX20, w ∈ lw_tbl := in_r [151, 153, 155, 157] (by decide +kernel)
set_option maxRecDepth 20000 in
theorem wL_x1 : ∀ w ∈ wsX10, w ∈ lw_tbl := in_r [176, 178, 180] (by decide +kernel)
set_option maxRecDepth 20000 in
theorem wL_x4 : ∀ w ∈ wsX40, w ∈ lw_tbl := in_r [196, 198, 200, 202, 204] (by decide +kernel)
theorem wsL_law_in : ∀ w ∈ wsL_law, w ∈ lw_tbl := all_app (all_app (all_app (all_app (all_app (all_app (all_app (all_app (all_app wL_r1 (all_app wL_r2 (all_app wL_r3 (all_app wL_r4 (all_app wL_r5 (all_app wL_r6 (all_app wL_r7 (all_app wL_r8 (all_app wL_r9 (all_app wL_r10 (all_app wL_r11 (all_app wL_r12 (all_app wL_r13 (all_app wL_r14 (all_app wL_r15 (all_app wL_r16 (all_app wL_r17 (all_app wL_r18 (all_app wL_r19 (all_app wL_r20 (all_app wL_r21 (all_app wL_r22 (all_app wL_r23 (all_app wL_r24 (all_app wL_r25 (all_app wL_r26 (all_app wL_r27 (all_app wL_r28 (all_app wL_r29 (all_app wL_r30 (all_app wL_r31 (all_app wL_r32 wL_r33)))))))))))))))))))))))))))))))) wL_x5) wL_x6) wL_x3) wL_x0) wL_x2) wL_x1) wL_x4) (fun _ h => absurd h List.not_mem_nil)
theorem inlX0 : ∀ w ∈ wsX00, w ∈ wsL_law := fun _ h => List.mem_append_left _ (List.mem_append_left _ (List.mem_append_left _ (List.mem_append_left _ (List.mem_append_right _ h))))
theorem inX0 : ∀ w ∈ wsX00, w ∈ lw_tbl := fun w h => wsL_law_in w (inlX0 w h)
theorem inlX1 : ∀ w ∈ wsX10, w ∈ wsL_law := fun _ h => List.mem_append_left _ (List.mem_append_left _ (List.mem_append_right _ h))
theorem inX1 : ∀ w ∈ wsX10, w ∈ lw_tbl := fun w h => wsL_law_in w (inlX1 w h)
theorem inlX2 : ∀ w ∈ wsX20, w ∈ wsL_law := fun _ h => List.mem_append_left _ (List.mem_append_left _ (List.mem_append_left _ (List.mem_append_right _ h)))
theorem inX2 : ∀ w ∈ wsX20, w ∈ lw_tbl := fun w h => wsL_law_in w (inlX2 w h)
theorem inlX3 : ∀ w ∈ wsX30, w ∈ wsL_law := fun _ h => List.mem_append_left _ (List.mem_append_left _ (List.mem_append_left _ (List.mem_append_left _ (List.mem_append_left _ (List.mem_append_right _ h)))))
theorem inX3 : ∀ w ∈ wsX30, w ∈ lw_tbl := fun w h => wsL_law_in w (inlX3 w h)
theorem inlX4 : ∀ w ∈ wsX40, w ∈ wsL_law := fun _ h => List.mem_append_left _ (List.mem_append_right _ h)
theorem inX4 : ∀ w ∈ wsX40, w ∈ lw_tbl := fun w h => wsL_law_in w (inlX4 w h)
theorem inlX5 : ∀ w ∈ wsX50, w ∈ wsL_law := fun _ h => List.mem_append_left _ (List.mem_append_left _ (List.mem_append_left _ (List.mem_append_left _ (List.mem_append_left _ (List.mem_append_left _ (List.mem_append_left _ (List.mem_append_right _ h)))))))
theorem inX5 : ∀ w ∈ wsX50, w ∈ lw_tbl := fun w h => wsL_law_in w (inlX5 w h)
theorem inlX6 : ∀ w ∈ wsX60, w ∈ wsL_law := fun _ h => List.mem_append_left _ (List.mem_append_left _ (List.mem_append_left _ (List.mem_append_left _ (List.mem_append_left _ (List.mem_append_left _ (List.mem_append_right _ h))))))
theorem inX6 : ∀ w ∈ wsX60, w ∈ lw_tbl := fun w h => wsL_law_in w (inlX6 w h)
theorem inJ6 : ∀ w ∈ wsJ60, w ∈ lw_tbl := by decide +kernel
theorem inJ9 : ∀ w ∈ wsJ90, w ∈ lw_tbl := by decide +kernel
theorem inJ0 : ∀ w ∈ wsJ00, w ∈ lw_tbl := by decide +kernel
theorem inJ1 : ∀ w ∈ wsJ10, w ∈ lw_tbl := by decide +kernel
theorem inJ2 : ∀ w ∈ wsJ20, w ∈ lw_tbl := by decide +kernel
theorem inJ3 : ∀ w ∈ wsJ30, w ∈ lw_tbl := by decide +kernel
