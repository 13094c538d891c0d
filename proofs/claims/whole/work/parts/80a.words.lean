/-! The law's words stand among the tables' -/
theorem in_pl {big ws : List Cond} (ps : List Nat) (hp : ws = ps.filterMap (fun i => big[i]?)) : ∀ w ∈ ws, w ∈ big := by
  intro w hw
  rw [hp] at hw
  obtain ⟨i, -, hi⟩ := List.mem_filterMap.mp hw
  exact List.mem_of_getElem? hi
theorem in_ap {big a b : List Cond} (h1 : ∀ w ∈ a, w ∈ big) (h2 : ∀ w ∈ b, w ∈ big) : ∀ w ∈ a ++ b, w ∈ big := fun w h => (List.mem_append.mp h).elim (h1 w) (h2 w)
theorem wl_1 : ∀ w ∈ wsL_law0_r1, w ∈ lw_tbl := in_pl [65, 66, 52, 681, 682, 57, 978, 67, 68, 69, 70, 71, 72, 73, 74, 53, 209, 210, 211, 213, 160, 214, 130, 131] (by decide +kernel)
theorem wl_2 : ∀ w ∈ wsL_law0_r2, w ∈ lw_tbl := in_pl [54, 215, 161, 162, 55, 216, 192, 193, 56, 217, 83, 76, 77, 78, 128, 79, 82, 86, 91, 95, 97, 99, 133, 134] (by decide +kernel)
theorem wl_3 : ∀ w ∈ wsL_law0_r3, w ∈ lw_tbl := in_pl [135, 138, 136, 142, 164, 165, 166, 169, 171, 167, 177, 178, 195, 196, 197, 198, 200, 683, 684, 685, 686, 688, 689, 690] (by decide +kernel)
theorem wl_4 : ∀ w ∈ wsL_law0_r4, w ∈ lw_tbl := in_pl [691, 692, 694, 559, 560, 51, 561, 562, 563, 564, 565, 566, 567, 505, 61, 424, 62, 80, 504, 273, 274, 241, 243, 0] (by decide +kernel)
theorem wl_5 : ∀ w ∈ wsL_law0_r5, w ∈ lw_tbl := in_pl [244, 212, 245, 247, 1, 248, 249, 250, 251, 252, 253, 254, 255, 256, 257, 258, 259, 101, 103, 105, 315, 316, 317, 318] (by decide +kernel)
theorem wl_6 : ∀ w ∈ wsL_law0_r6, w ∈ lw_tbl := in_pl [722, 723, 724, 725, 726, 727, 728, 729, 730, 731, 732, 734, 17, 735, 687, 736, 738, 18, 739, 740, 742, 19, 743, 693] (by decide +kernel)
theorem wl_7 : ∀ w ∈ wsL_law0_r7, w ∈ lw_tbl := in_pl [744, 746, 20, 747, 718, 719, 720, 721, 569, 570, 571, 572, 573, 574, 575, 89, 374, 276, 277, 748, 749, 750, 751, 577] (by decide +kernel)
theorem wl_8 : ∀ w ∈ wsL_law0_r8, w ∈ lw_tbl := in_pl [578, 579, 580, 581, 582, 583, 752, 753, 754, 755, 585, 586, 587, 588, 589, 590, 591, 93, 756, 757, 758, 759, 237, 238] (by decide +kernel)
theorem wl_9 : ∀ w ∈ wsL_law0_r9, w ∈ lw_tbl := in_pl [239, 240, 260, 261, 262, 263, 173, 84, 264, 266, 2, 267, 88, 92, 268, 269, 270, 271, 278, 280, 3, 281, 175, 282] (by decide +kernel)
theorem wl_10 : ∀ w ∈ wsL_law0_r10, w ∈ lw_tbl := in_pl [283, 284, 285, 287, 289, 4, 290, 102, 106, 291, 293, 5, 294, 176, 172, 295, 296, 297, 298, 299, 300, 301, 302, 760] (by decide +kernel)
theorem wl_11 : ∀ w ∈ wsL_law0_r11, w ∈ lw_tbl := in_pl [761, 762, 763, 764, 766, 21, 767, 768, 770, 22, 771, 772, 774, 23, 775, 776, 778, 24, 779, 780, 782, 25, 783, 784] (by decide +kernel)
theorem wl_12 : ∀ w ∈ wsL_law0_r12, w ∈ lw_tbl := in_pl [785, 786, 787, 788, 789, 303, 304, 305, 306, 307, 309, 6, 310, 790, 791, 792, 793, 794, 796, 26, 797, 311, 312, 313] (by decide +kernel)
theorem wl_13 : ∀ w ∈ wsL_law0_r13, w ∈ lw_tbl := in_pl [314, 798, 799, 800, 801, 593, 594, 595, 596, 597, 598, 599, 600, 602, 63, 141, 139, 802, 803, 804, 805, 695, 319, 320] (by decide +kernel)
theorem wl_14 : ∀ w ∈ wsL_law0_r14, w ∈ lw_tbl := in_pl [321, 322, 806, 807, 808, 809, 323, 324, 325, 326, 327, 328, 329, 330, 144, 140, 331, 332, 333, 334, 335, 337, 7, 338] (by decide +kernel)
theorem wl_15 : ∀ w ∈ wsL_law0_r15, w ∈ lw_tbl := in_pl [145, 81, 146, 339, 341, 8, 342, 85, 344, 346, 9, 347, 90, 94, 348, 350, 10, 351, 352, 354, 11, 355, 356, 358] (by decide +kernel)
theorem wl_16 : ∀ w ∈ wsL_law0_r16, w ∈ lw_tbl := in_pl [12, 359, 810, 811, 812, 813, 814, 816, 27, 817, 818, 820, 28, 821, 822, 824, 29, 825, 826, 828, 30, 829, 830, 832] (by decide +kernel)
theorem wl_17 : ∀ w ∈ wsL_law0_r17, w ∈ lw_tbl := in_pl [31, 833, 618, 619, 620, 621, 622, 623, 624, 143, 625, 626, 627, 628, 388, 389, 390, 391, 392, 393, 64, 394, 395, 396] (by decide +kernel)
theorem wl_18 : ∀ w ∈ wsL_law0_r18, w ∈ lw_tbl := in_pl [397, 834, 835, 836, 837, 838, 840, 32, 841, 842, 844, 33, 845, 846, 847, 848, 630, 631, 632, 633, 634, 635, 636, 637] (by decide +kernel)
theorem wl_19 : ∀ w ∈ wsL_law0_r19, w ∈ lw_tbl := in_pl [638, 639, 849, 850, 851, 852, 641, 642, 643, 644, 645, 646, 647, 853, 854, 855, 856, 649, 650, 651, 652, 653, 654, 655] (by decide +kernel)
theorem wl_20 : ∀ w ∈ wsL_law0_r20, w ∈ lw_tbl := in_pl [857, 858, 859, 860, 657, 658, 659, 660, 501, 502, 503, 96, 199, 170, 174, 521, 522, 523, 524, 525, 402, 403, 404, 405] (by decide +kernel)
theorem wl_21 : ∀ w ∈ wsL_law0_r21, w ∈ lw_tbl := in_pl [87, 371, 372, 373, 861, 862, 863, 864, 865, 867, 34, 868, 869, 871, 35, 872, 873, 875, 36, 876, 877, 879, 37, 880] (by decide +kernel)
theorem wl_22 : ∀ w ∈ wsL_law0_r22, w ∈ lw_tbl := in_pl [661, 662, 663, 664, 528, 529, 530, 881, 882, 883, 884, 665, 666, 667, 668, 532, 533, 534, 98, 100, 885, 886, 887, 888] (by decide +kernel)
theorem wl_23 : ∀ w ∈ wsL_law0_r23, w ∈ lw_tbl := in_pl [889, 891, 38, 892, 669, 670, 671, 672, 385, 386, 387, 104, 364, 365, 366, 398, 399, 400, 401, 407, 408, 409, 410, 201] (by decide +kernel)
theorem wl_24 : ∀ w ∈ wsL_law0_r24, w ∈ lw_tbl := in_pl [411, 412, 413, 415, 416, 417, 418, 419, 420, 422, 13, 423, 893, 894, 895, 896, 897, 899, 39, 900, 901, 903, 40, 904] (by decide +kernel)
theorem wl_25 : ∀ w ∈ wsL_law0_r25, w ∈ lw_tbl := in_pl [905, 907, 41, 908, 673, 674, 675, 676, 537, 538, 539, 909, 910, 911, 912, 913, 915, 42, 916, 677, 678, 679, 680, 542] (by decide +kernel)
theorem wl_26 : ∀ w ∈ wsL_law0_r26, w ∈ lw_tbl := in_pl [543, 544, 917, 918, 919, 920, 921, 923, 43, 924, 360, 361, 362, 363, 925, 926, 927, 928, 929, 931, 44, 932, 933, 935] (by decide +kernel)
theorem wl_27 : ∀ w ∈ wsL_law0_r27, w ∈ lw_tbl := in_pl [45, 936, 937, 939, 46, 940, 367, 368, 369, 370, 941, 942, 943, 944, 945, 947, 47, 948, 375, 376, 377, 378, 949, 950] (by decide +kernel)
theorem wl_28 : ∀ w ∈ wsL_law0_r28, w ∈ lw_tbl := in_pl [951, 952, 953, 955, 48, 956, 379, 380, 381, 382, 383, 384, 492, 493, 494, 495, 496, 498, 15, 499, 500, 527, 531, 536] (by decide +kernel)
theorem wl_29 : ∀ w ∈ wsL_law0_r29, w ∈ lw_tbl := in_pl [541, 546, 547, 548, 549, 550, 551, 552, 553, 554, 555, 557, 16, 558, 957, 958, 959, 960, 961, 696, 962, 964, 49, 965] (by decide +kernel)
theorem wl_30 : ∀ w ∈ wsL_law0_r30, w ∈ lw_tbl := in_pl [966, 967, 969, 50, 970, 971, 972, 973, 974, 975, 976, 977] (by decide +kernel)
theorem wl_x0 : ∀ w ∈ wsX00, w ∈ lw_tbl := in_pl [202, 204, 206] (by decide +kernel)
theorem wl_x1 : ∀ w ∈ wsX10, w ∈ lw_tbl := in_pl [107, 109, 111, 113, 115, 117, 119, 121, 123, 125] (by decide +kernel)
theorem wl_x2 : ∀ w ∈ wsX20, w ∈ lw_tbl := in_pl [147, 149, 151, 153, 155, 157] (by decide +kernel)
theorem wl_x3 : ∀ w ∈ wsX30, w ∈ lw_tbl := in_pl [179, 181, 183, 185, 187, 189] (by decide +kernel)
theorem wl_x4 : ∀ w ∈ wsX40, w ∈ lw_tbl := in_pl [218, 220, 222, 224, 226, 228, 230, 232, 234] (by decide +kernel)
theorem wl_x5 : ∀ w ∈ wsX50, w ∈ lw_tbl := in_pl [697, 699, 701, 703, 705, 707, 709, 711, 713, 715] (by decide +kernel)
theorem wl_0 : ∀ w ∈ wsL_law0, w ∈ lw_tbl := in_ap (in_ap (in_ap (in_ap (in_ap (in_ap (in_ap (in_ap wl_1 (in_ap wl_2 (in_ap wl_3 (in_ap wl_4 (in_ap wl_5 (in_ap wl_6 (in_ap wl_7 (in_ap wl_8 (in_ap wl_9 (in_ap wl_10 (in_ap wl_11 (in_ap wl_12 (in_ap wl_13 (in_ap wl_14 (in_ap wl_15 (in_ap wl_16 (in_ap wl_17 (in_ap wl_18 (in_ap wl_19 (in_ap wl_20 (in_ap wl_21 (in_ap wl_22 (in_ap wl_23 (in_ap wl_24 (in_ap wl_25 (in_ap wl_26 (in_ap wl_27 (in_ap wl_28 (in_ap wl_29 wl_30))))))))))))))))))))))))))))) wl_x4) wl_x5) wl_x1) wl_x2) wl_x3) wl_x0) (fun w h => absurd h List.not_mem_nil)
theorem wl_t0 : ∀ w ∈ (vx_atS RX4 63 "java/lang/IndexOutOfBoundsException" ["java/lang/RuntimeException", "java/lang/Exception"]).filter goodWord, w ∈ lw_tbl := by decide +kernel
theorem wl_t1 : ∀ w ∈ (vx_atS RX4 70 "java/lang/IllegalArgumentException" ["java/lang/RuntimeException", "java/lang/Exception"]).filter goodWord, w ∈ lw_tbl := by decide +kernel
theorem wl_t2 : ∀ w ∈ (vx_atS RX4 120 "java/lang/IllegalStateException" ["java/lang/RuntimeException", "java/lang/Exception"]).filter goodWord, w ∈ lw_tbl := by decide +kernel
theorem wl_all : ∀ w ∈ wsL_law, w ∈ lw_tbl := in_ap (in_ap (in_ap wl_0 wl_t0) wl_t1) wl_t2
