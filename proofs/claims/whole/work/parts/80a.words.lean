/-! The law's words stand among the tables' -/
theorem in_pl {big ws : List Cond} (ps : List Nat) (hp : ws = ps.filterMap (fun i => big[i]?)) : ∀ w ∈ ws, w ∈ big := by
  intro w hw
  rw [hp] at hw
  obtain ⟨i, -, hi⟩ := List.mem_filterMap.mp hw
  exact List.mem_of_getElem? hi
theorem in_ap {big a b : List Cond} (h1 : ∀ w ∈ a, w ∈ big) (h2 : ∀ w ∈ b, w ∈ big) : ∀ w ∈ a ++ b, w ∈ big := fun w h => (List.mem_append.mp h).elim (h1 w) (h2 w)
theorem wl_1 : ∀ w ∈ wsL_law0_r1, w ∈ lw_tbl := in_pl [65, 66, 52, 684, 685, 57, 981, 67, 68, 69, 70, 71, 72, 73, 74, 53, 212, 213, 214, 216, 163, 217, 130, 131] (by decide +kernel)
theorem wl_2 : ∀ w ∈ wsL_law0_r2, w ∈ lw_tbl := in_pl [54, 218, 164, 165, 55, 219, 195, 196, 56, 220, 83, 76, 77, 78, 128, 79, 82, 86, 91, 95, 97, 99, 133, 134] (by decide +kernel)
theorem wl_3 : ∀ w ∈ wsL_law0_r3, w ∈ lw_tbl := in_pl [135, 138, 136, 142, 167, 168, 169, 172, 174, 170, 180, 181, 198, 199, 200, 201, 203, 686, 687, 688, 689, 691, 692, 693] (by decide +kernel)
theorem wl_4 : ∀ w ∈ wsL_law0_r4, w ∈ lw_tbl := in_pl [694, 695, 697, 562, 563, 51, 564, 565, 566, 567, 568, 569, 570, 508, 61, 427, 62, 80, 507, 276, 277, 244, 246, 0] (by decide +kernel)
theorem wl_5 : ∀ w ∈ wsL_law0_r5, w ∈ lw_tbl := in_pl [247, 215, 248, 250, 1, 251, 252, 253, 254, 255, 256, 257, 258, 259, 260, 261, 262, 101, 103, 105, 318, 319, 320, 321] (by decide +kernel)
theorem wl_6 : ∀ w ∈ wsL_law0_r6, w ∈ lw_tbl := in_pl [725, 726, 727, 728, 729, 730, 731, 732, 733, 734, 735, 737, 17, 738, 690, 739, 741, 18, 742, 743, 745, 19, 746, 696] (by decide +kernel)
theorem wl_7 : ∀ w ∈ wsL_law0_r7, w ∈ lw_tbl := in_pl [747, 749, 20, 750, 721, 722, 723, 724, 572, 573, 574, 575, 576, 577, 578, 89, 377, 279, 280, 751, 752, 753, 754, 580] (by decide +kernel)
theorem wl_8 : ∀ w ∈ wsL_law0_r8, w ∈ lw_tbl := in_pl [581, 582, 583, 584, 585, 586, 755, 756, 757, 758, 588, 589, 590, 591, 592, 593, 594, 93, 759, 760, 761, 762, 240, 241] (by decide +kernel)
theorem wl_9 : ∀ w ∈ wsL_law0_r9, w ∈ lw_tbl := in_pl [242, 243, 263, 264, 265, 266, 176, 84, 267, 269, 2, 270, 88, 92, 271, 272, 273, 274, 281, 283, 3, 284, 178, 285] (by decide +kernel)
theorem wl_10 : ∀ w ∈ wsL_law0_r10, w ∈ lw_tbl := in_pl [286, 287, 288, 290, 292, 4, 293, 102, 106, 294, 296, 5, 297, 179, 175, 298, 299, 300, 301, 302, 303, 304, 305, 763] (by decide +kernel)
theorem wl_11 : ∀ w ∈ wsL_law0_r11, w ∈ lw_tbl := in_pl [764, 765, 766, 767, 769, 21, 770, 771, 773, 22, 774, 775, 777, 23, 778, 779, 781, 24, 782, 783, 785, 25, 786, 787] (by decide +kernel)
theorem wl_12 : ∀ w ∈ wsL_law0_r12, w ∈ lw_tbl := in_pl [788, 789, 790, 791, 792, 306, 307, 308, 309, 310, 312, 6, 313, 793, 794, 795, 796, 797, 799, 26, 800, 314, 315, 316] (by decide +kernel)
theorem wl_13 : ∀ w ∈ wsL_law0_r13, w ∈ lw_tbl := in_pl [317, 801, 802, 803, 804, 596, 597, 598, 599, 600, 601, 602, 603, 605, 63, 141, 139, 805, 806, 807, 808, 698, 322, 323] (by decide +kernel)
theorem wl_14 : ∀ w ∈ wsL_law0_r14, w ∈ lw_tbl := in_pl [324, 325, 809, 810, 811, 812, 326, 327, 328, 329, 330, 331, 332, 333, 144, 140, 334, 335, 336, 337, 338, 340, 7, 341] (by decide +kernel)
theorem wl_15 : ∀ w ∈ wsL_law0_r15, w ∈ lw_tbl := in_pl [145, 147, 342, 344, 8, 345, 146, 85, 347, 349, 9, 350, 90, 94, 351, 353, 10, 354, 81, 355, 357, 11, 358, 359] (by decide +kernel)
theorem wl_16 : ∀ w ∈ wsL_law0_r16, w ∈ lw_tbl := in_pl [361, 12, 362, 813, 814, 815, 816, 817, 819, 27, 820, 821, 823, 28, 824, 825, 827, 29, 828, 829, 831, 30, 832, 833] (by decide +kernel)
theorem wl_17 : ∀ w ∈ wsL_law0_r17, w ∈ lw_tbl := in_pl [835, 31, 836, 621, 622, 623, 624, 625, 626, 627, 143, 628, 629, 630, 631, 391, 392, 393, 394, 395, 396, 64, 397, 398] (by decide +kernel)
theorem wl_18 : ∀ w ∈ wsL_law0_r18, w ∈ lw_tbl := in_pl [399, 400, 837, 838, 839, 840, 841, 843, 32, 844, 845, 847, 33, 848, 849, 850, 851, 633, 634, 635, 636, 637, 638, 639] (by decide +kernel)
theorem wl_19 : ∀ w ∈ wsL_law0_r19, w ∈ lw_tbl := in_pl [640, 641, 642, 852, 853, 854, 855, 644, 645, 646, 647, 648, 649, 650, 856, 857, 858, 859, 652, 653, 654, 655, 656, 657] (by decide +kernel)
theorem wl_20 : ∀ w ∈ wsL_law0_r20, w ∈ lw_tbl := in_pl [658, 860, 861, 862, 863, 660, 661, 662, 663, 504, 505, 506, 96, 202, 173, 177, 524, 525, 526, 527, 528, 405, 406, 407] (by decide +kernel)
theorem wl_21 : ∀ w ∈ wsL_law0_r21, w ∈ lw_tbl := in_pl [408, 87, 374, 375, 376, 864, 865, 866, 867, 868, 870, 34, 871, 872, 874, 35, 875, 876, 878, 36, 879, 880, 882, 37] (by decide +kernel)
theorem wl_22 : ∀ w ∈ wsL_law0_r22, w ∈ lw_tbl := in_pl [883, 664, 665, 666, 667, 531, 532, 533, 884, 885, 886, 887, 668, 669, 670, 671, 535, 536, 537, 98, 100, 888, 889, 890] (by decide +kernel)
theorem wl_23 : ∀ w ∈ wsL_law0_r23, w ∈ lw_tbl := in_pl [891, 892, 894, 38, 895, 672, 673, 674, 675, 388, 389, 390, 104, 367, 368, 369, 401, 402, 403, 404, 410, 411, 412, 413] (by decide +kernel)
theorem wl_24 : ∀ w ∈ wsL_law0_r24, w ∈ lw_tbl := in_pl [204, 414, 415, 416, 418, 419, 420, 421, 422, 423, 425, 13, 426, 896, 897, 898, 899, 900, 902, 39, 903, 904, 906, 40] (by decide +kernel)
theorem wl_25 : ∀ w ∈ wsL_law0_r25, w ∈ lw_tbl := in_pl [907, 908, 910, 41, 911, 676, 677, 678, 679, 540, 541, 542, 912, 913, 914, 915, 916, 918, 42, 919, 680, 681, 682, 683] (by decide +kernel)
theorem wl_26 : ∀ w ∈ wsL_law0_r26, w ∈ lw_tbl := in_pl [545, 546, 547, 920, 921, 922, 923, 924, 926, 43, 927, 363, 364, 365, 366, 928, 929, 930, 931, 932, 934, 44, 935, 936] (by decide +kernel)
theorem wl_27 : ∀ w ∈ wsL_law0_r27, w ∈ lw_tbl := in_pl [938, 45, 939, 940, 942, 46, 943, 370, 371, 372, 373, 944, 945, 946, 947, 948, 950, 47, 951, 378, 379, 380, 381, 952] (by decide +kernel)
theorem wl_28 : ∀ w ∈ wsL_law0_r28, w ∈ lw_tbl := in_pl [953, 954, 955, 956, 958, 48, 959, 382, 383, 384, 385, 386, 387, 495, 496, 497, 498, 499, 501, 15, 502, 503, 530, 534] (by decide +kernel)
theorem wl_29 : ∀ w ∈ wsL_law0_r29, w ∈ lw_tbl := in_pl [539, 544, 549, 550, 551, 552, 553, 554, 555, 556, 557, 558, 560, 16, 561, 960, 961, 962, 963, 964, 699, 965, 967, 49] (by decide +kernel)
theorem wl_30 : ∀ w ∈ wsL_law0_r30, w ∈ lw_tbl := in_pl [968, 969, 970, 972, 50, 973, 974, 975, 976, 977, 978, 979, 980] (by decide +kernel)
theorem wl_x0 : ∀ w ∈ wsX00, w ∈ lw_tbl := in_pl [205, 207, 209] (by decide +kernel)
theorem wl_x1 : ∀ w ∈ wsX10, w ∈ lw_tbl := in_pl [107, 109, 111, 113, 115, 117, 119, 121, 123, 125] (by decide +kernel)
theorem wl_x2 : ∀ w ∈ wsX20, w ∈ lw_tbl := in_pl [148, 150, 152, 154, 156, 158, 160] (by decide +kernel)
theorem wl_x3 : ∀ w ∈ wsX30, w ∈ lw_tbl := in_pl [182, 184, 186, 188, 190, 192] (by decide +kernel)
theorem wl_x4 : ∀ w ∈ wsX40, w ∈ lw_tbl := in_pl [221, 223, 225, 227, 229, 231, 233, 235, 237] (by decide +kernel)
theorem wl_x5 : ∀ w ∈ wsX50, w ∈ lw_tbl := in_pl [700, 702, 704, 706, 708, 710, 712, 714, 716, 718] (by decide +kernel)
theorem wl_0 : ∀ w ∈ wsL_law0, w ∈ lw_tbl := in_ap (in_ap (in_ap (in_ap (in_ap (in_ap (in_ap (in_ap wl_1 (in_ap wl_2 (in_ap wl_3 (in_ap wl_4 (in_ap wl_5 (in_ap wl_6 (in_ap wl_7 (in_ap wl_8 (in_ap wl_9 (in_ap wl_10 (in_ap wl_11 (in_ap wl_12 (in_ap wl_13 (in_ap wl_14 (in_ap wl_15 (in_ap wl_16 (in_ap wl_17 (in_ap wl_18 (in_ap wl_19 (in_ap wl_20 (in_ap wl_21 (in_ap wl_22 (in_ap wl_23 (in_ap wl_24 (in_ap wl_25 (in_ap wl_26 (in_ap wl_27 (in_ap wl_28 (in_ap wl_29 wl_30))))))))))))))))))))))))))))) wl_x4) wl_x5) wl_x1) wl_x2) wl_x3) wl_x0) (fun w h => absurd h List.not_mem_nil)
theorem wl_t0 : ∀ w ∈ (vx_atS RX4 63 "java/lang/IndexOutOfBoundsException" ["java/lang/RuntimeException", "java/lang/Exception"]).filter goodWord, w ∈ lw_tbl := by decide +kernel
theorem wl_t1 : ∀ w ∈ (vx_atS RX4 70 "java/lang/IllegalArgumentException" ["java/lang/RuntimeException", "java/lang/Exception"]).filter goodWord, w ∈ lw_tbl := by decide +kernel
theorem wl_t2 : ∀ w ∈ (vx_atS RX4 120 "java/lang/IllegalStateException" ["java/lang/RuntimeException", "java/lang/Exception"]).filter goodWord, w ∈ lw_tbl := by decide +kernel
theorem wl_all : ∀ w ∈ wsL_law, w ∈ lw_tbl := in_ap (in_ap (in_ap wl_0 wl_t0) wl_t1) wl_t2
