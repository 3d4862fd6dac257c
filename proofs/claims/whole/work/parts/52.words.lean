/-! every word of the law is in the tables, by places (by gen/words.py) -/
theorem mem_r {big ws : List Cond} (ps : List Nat) (hp : ws = ps.filterMap (fun i => big[i]?)) : ∀ w ∈ ws, w ∈ big := by
  intro w hw
  rw [hp] at hw
  obtain ⟨i, -, hi⟩ := List.mem_filterMap.mp hw
  exact List.mem_of_getElem? hi
set_option maxRecDepth 20000 in
theorem wL_r1 : ∀ w ∈ wsL_law_r1, w ∈ lw_tbl := mem_r [50, 51, 38, 652, 653, 44, 52, 53, 54, 55, 56, 57, 58, 59, 39, 213, 73, 74, 40, 214, 116, 117, 41, 215] (by decide +kernel)
set_option maxRecDepth 20000 in
theorem wL_r2 : ∀ w ∈ wsL_law_r2, w ∈ lw_tbl := mem_r [141, 216, 143, 144, 42, 217, 171, 43, 218, 219, 220, 61, 62, 63, 71, 64, 72, 65, 75, 76, 77, 78, 80, 81] (by decide +kernel)
set_option maxRecDepth 20000 in
theorem wL_r3 : ∀ w ∈ wsL_law_r3, w ∈ lw_tbl := mem_r [82, 83, 84, 85, 86, 87, 88, 79, 119, 120, 121, 122, 145, 146, 147, 148, 149, 150, 172, 173, 174, 175, 176, 177] (by decide +kernel)
set_option maxRecDepth 20000 in
theorem wL_r4 : ∀ w ∈ wsL_law_r4, w ∈ lw_tbl := mem_r [178, 179, 180, 182, 654, 655, 656, 657, 659, 658, 660, 786, 661, 664, 665, 666, 667, 668, 669, 670, 671, 672, 673, 674] (by decide +kernel)
set_option maxRecDepth 20000 in
theorem wL_r5 : ∀ w ∈ wsL_law_r5, w ∈ lw_tbl := mem_r [675, 679, 681, 682, 683, 684, 685, 686, 687, 688, 689, 787, 690, 691, 694, 700, 238, 239, 240, 241, 242, 243, 244, 245] (by decide +kernel)
set_option maxRecDepth 20000 in
theorem wL_r6 : ∀ w ∈ wsL_law_r6, w ∈ lw_tbl := mem_r [246, 247, 248, 249, 250, 251, 252, 253, 254, 255, 256, 257, 258, 259, 45, 260, 261, 262, 263, 264, 265, 266, 267, 268] (by decide +kernel)
set_option maxRecDepth 20000 in
theorem wL_r7 : ∀ w ∈ wsL_law_r7, w ∈ lw_tbl := mem_r [269, 270, 271, 273, 0, 274, 275, 277, 1, 278, 279, 280, 45, 281, 282, 283, 284, 285, 286, 287, 289, 290, 788, 789] (by decide +kernel)
set_option maxRecDepth 20000 in
theorem wL_r8 : ∀ w ∈ wsL_law_r8, w ∈ lw_tbl := mem_r [790, 791, 792, 793, 794, 795, 796, 797, 798, 800, 24, 801, 291, 292, 293, 294, 295, 296, 297, 298, 299, 300, 301, 302] (by decide +kernel)
set_option maxRecDepth 20000 in
theorem wL_r9 : ∀ w ∈ wsL_law_r9, w ∈ lw_tbl := mem_r [303, 304, 305, 306, 307, 308, 309, 310, 311, 802, 803, 804, 805, 806, 807, 808, 312, 313, 314, 315, 316, 317, 318, 809] (by decide +kernel)
set_option maxRecDepth 20000 in
theorem wL_r10 : ∀ w ∈ wsL_law_r10, w ∈ lw_tbl := mem_r [810, 811, 812, 813, 814, 815, 816, 817, 818, 819, 319, 320, 321, 322, 323, 324, 325, 326, 327, 328, 329, 820, 821, 822] (by decide +kernel)
set_option maxRecDepth 20000 in
theorem wL_r11 : ∀ w ∈ wsL_law_r11, w ∈ lw_tbl := mem_r [823, 824, 825, 826, 827, 829, 25, 830, 835, 831, 833, 26, 834, 330, 331, 332, 333, 334, 836, 837, 838, 839, 335, 336] (by decide +kernel)
set_option maxRecDepth 20000 in
theorem wL_r12 : ∀ w ∈ wsL_law_r12, w ∈ lw_tbl := mem_r [337, 338, 339, 340, 341, 342, 840, 841, 842, 843, 343, 344, 345, 346, 347, 348, 349, 350, 89, 844, 845, 846, 847, 663] (by decide +kernel)
set_option maxRecDepth 20000 in
theorem wL_r13 : ∀ w ∈ wsL_law_r13, w ∈ lw_tbl := mem_r [351, 352, 353, 354, 355, 356, 357, 358, 90, 372, 359, 361, 2, 362, 364, 366, 3, 367, 368, 369, 370, 371, 848, 849] (by decide +kernel)
set_option maxRecDepth 20000 in
theorem wL_r14 : ∀ w ∈ wsL_law_r14, w ∈ lw_tbl := mem_r [850, 851, 662, 852, 853, 854, 855, 857, 27, 858, 373, 374, 375, 376, 377, 378, 379, 380, 381, 383, 4, 384, 385, 387] (by decide +kernel)
set_option maxRecDepth 20000 in
theorem wL_r15 : ∀ w ∈ wsL_law_r15, w ∈ lw_tbl := mem_r [5, 388, 859, 860, 861, 862, 389, 390, 391, 392, 393, 394, 395, 396, 863, 864, 865, 866, 397, 398, 399, 400, 401, 402] (by decide +kernel)
set_option maxRecDepth 20000 in
theorem wL_r16 : ∀ w ∈ wsL_law_r16, w ∈ lw_tbl := mem_r [403, 404, 405, 406, 408, 6, 409, 418, 410, 412, 7, 413, 414, 416, 8, 417, 867, 868, 869, 870, 419, 420, 421, 422] (by decide +kernel)
set_option maxRecDepth 20000 in
theorem wL_r17 : ∀ w ∈ wsL_law_r17, w ∈ lw_tbl := mem_r [423, 424, 425, 426, 123, 427, 429, 9, 430, 871, 872, 873, 874, 676, 875, 877, 28, 878, 431, 432, 433, 434, 435, 436] (by decide +kernel)
set_option maxRecDepth 20000 in
theorem wL_r18 : ∀ w ∈ wsL_law_r18, w ∈ lw_tbl := mem_r [437, 438, 439, 440, 441, 442, 447, 124, 127, 125, 126, 443, 444, 445, 446, 181, 183, 448, 450, 10, 451, 452, 454, 11] (by decide +kernel)
set_option maxRecDepth 20000 in
theorem wL_r19 : ∀ w ∈ wsL_law_r19, w ∈ lw_tbl := mem_r [455, 456, 457, 458, 459, 461, 12, 462, 518, 464, 466, 13, 467, 468, 469, 470, 46, 471, 952, 472, 473, 474, 475, 476] (by decide +kernel)
set_option maxRecDepth 20000 in
theorem wL_r20 : ∀ w ∈ wsL_law_r20, w ∈ lw_tbl := mem_r [953, 478, 479, 480, 481, 482, 483, 484, 485, 486, 487, 47, 488, 489, 490, 491, 492, 494, 495, 48, 496, 497, 498, 49] (by decide +kernel)
set_option maxRecDepth 20000 in
theorem wL_r21 : ∀ w ∈ wsL_law_r21, w ∈ lw_tbl := mem_r [499, 500, 501, 502, 503, 504, 505, 506, 507, 508, 509, 510, 512, 514, 519, 521, 14, 522, 523, 524, 525, 526, 527, 528] (by decide +kernel)
set_option maxRecDepth 20000 in
theorem wL_r22 : ∀ w ∈ wsL_law_r22, w ∈ lw_tbl := mem_r [529, 530, 531, 532, 533, 534, 535, 537, 15, 538, 540, 542, 16, 543, 544, 546, 17, 547, 551, 553, 18, 554, 555, 556] (by decide +kernel)
set_option maxRecDepth 20000 in
theorem wL_r23 : ∀ w ∈ wsL_law_r23, w ∈ lw_tbl := mem_r [557, 558, 879, 880, 881, 882, 680, 677, 678, 883, 885, 29, 886, 887, 889, 30, 890, 891, 900, 901, 902, 693, 907, 915] (by decide +kernel)
set_option maxRecDepth 20000 in
theorem wL_r24 : ∀ w ∈ wsL_law_r24, w ∈ lw_tbl := mem_r [892, 894, 31, 895, 692, 896, 898, 32, 899, 903, 905, 33, 906, 908, 910, 34, 911, 912, 913, 914, 560, 561, 562, 563] (by decide +kernel)
set_option maxRecDepth 20000 in
theorem wL_r25 : ∀ w ∈ wsL_law_r25, w ∈ lw_tbl := mem_r [916, 917, 918, 919, 564, 565, 566, 567, 568, 570, 19, 571, 572, 573, 574, 575, 576, 577, 578, 579, 184, 580, 185, 186] (by decide +kernel)
set_option maxRecDepth 20000 in
theorem wL_r26 : ∀ w ∈ wsL_law_r26, w ∈ lw_tbl := mem_r [187, 581, 583, 20, 584, 585, 587, 21, 588, 589, 591, 22, 592, 593, 595, 23, 596, 920, 921, 922, 923, 924, 926, 35] (by decide +kernel)
set_option maxRecDepth 20000 in
theorem wL_r27 : ∀ w ∈ wsL_law_r27, w ∈ lw_tbl := mem_r [927, 928, 930, 36, 931, 597, 598, 599, 600, 601, 602, 603, 604, 932, 933, 934, 935, 605, 606, 607, 608, 609, 610, 611] (by decide +kernel)
set_option maxRecDepth 20000 in
theorem wL_r28 : ∀ w ∈ wsL_law_r28, w ∈ lw_tbl := mem_r [612, 936, 937, 938, 939, 613, 614, 615, 616, 617, 618, 619, 620, 152, 154, 151, 153, 622, 623, 155, 621, 940, 941, 942] (by decide +kernel)
set_option maxRecDepth 20000 in
theorem wL_r29 : ∀ w ∈ wsL_law_r29, w ∈ lw_tbl := mem_r [943, 695, 698, 696, 697, 699, 624, 625, 626, 627, 628, 629, 630, 631, 944, 945, 946, 947, 632, 633, 634, 635, 636, 637] (by decide +kernel)
set_option maxRecDepth 20000 in
theorem wL_r30 : ∀ w ∈ wsL_law_r30, w ∈ lw_tbl := mem_r [638, 639, 640, 641, 642, 643, 644, 645, 646, 647, 648, 649, 650, 651, 948, 949, 950, 951] (by decide +kernel)
set_option maxRecDepth 20000 in
theorem wL_X0 : ∀ w ∈ wsX00, w ∈ lw_tbl := mem_r [128, 130, 132, 134, 136, 138] (by decide +kernel)
set_option maxRecDepth 20000 in
theorem wL_X1 : ∀ w ∈ wsX10, w ∈ lw_tbl := mem_r [188, 190, 192, 194, 196, 198, 200, 202, 204, 206, 208, 210] (by decide +kernel)
set_option maxRecDepth 20000 in
theorem wL_X2 : ∀ w ∈ wsX20, w ∈ lw_tbl := mem_r [91, 93, 95, 97, 99, 101, 103, 105, 107, 109, 111, 113] (by decide +kernel)
set_option maxRecDepth 20000 in
theorem wL_X3 : ∀ w ∈ wsX30, w ∈ lw_tbl := mem_r [156, 158, 160, 162, 164, 166, 168] (by decide +kernel)
set_option maxRecDepth 20000 in
theorem wL_X4 : ∀ w ∈ wsX40, w ∈ lw_tbl := mem_r [66, 68] (by decide +kernel)
set_option maxRecDepth 20000 in
theorem wL_X5 : ∀ w ∈ wsX50, w ∈ lw_tbl := mem_r [221, 223, 225, 227, 229, 231, 233, 235] (by decide +kernel)
set_option maxRecDepth 20000 in
theorem wL_X6 : ∀ w ∈ wsX60, w ∈ lw_tbl := mem_r [701, 703, 705, 707, 709, 711, 713, 715, 717, 719, 721, 723, 725, 727, 729, 731, 733, 735, 737, 739, 741, 743, 745, 747, 749, 751, 753, 755, 757, 759, 761, 763, 765, 767, 769, 771, 773, 775, 777, 779, 781, 783] (by decide +kernel)
theorem mem_app {big a b : List Cond} (ha : ∀ w ∈ a, w ∈ big) (hb : ∀ w ∈ b, w ∈ big) : ∀ w ∈ a ++ b, w ∈ big := fun w h => (List.mem_append.mp h).elim (ha w) (hb w)
theorem wsL_law_in : ∀ w ∈ wsL_law, w ∈ lw_tbl := (mem_app (mem_app (mem_app (mem_app (mem_app (mem_app (mem_app (mem_app (mem_app wL_r1 (mem_app wL_r2 (mem_app wL_r3 (mem_app wL_r4 (mem_app wL_r5 (mem_app wL_r6 (mem_app wL_r7 (mem_app wL_r8 (mem_app wL_r9 (mem_app wL_r10 (mem_app wL_r11 (mem_app wL_r12 (mem_app wL_r13 (mem_app wL_r14 (mem_app wL_r15 (mem_app wL_r16 (mem_app wL_r17 (mem_app wL_r18 (mem_app wL_r19 (mem_app wL_r20 (mem_app wL_r21 (mem_app wL_r22 (mem_app wL_r23 (mem_app wL_r24 (mem_app wL_r25 (mem_app wL_r26 (mem_app wL_r27 (mem_app wL_r28 (mem_app wL_r29 wL_r30))))))))))))))))))))))))))))) wL_X5) wL_X6) wL_X4) wL_X2) wL_X0) wL_X3) wL_X1) (fun _ h => absurd h List.not_mem_nil))
