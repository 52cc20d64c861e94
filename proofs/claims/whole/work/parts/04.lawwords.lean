set_option maxRecDepth 20000 in
theorem wsL_law0_r1_in : ∀ w ∈ wsL_law0_r1, w ∈ lw_tbl := mem_r _ [33, 34, 14, 822, 823, 20, 1097, 35, 36, 37, 38, 39, 40, 41, 42, 15, 127, 74, 75, 17, 128, 96, 97, 18] (by decide +kernel)
set_option maxRecDepth 20000 in
theorem wsL_law0_r2_in : ∀ w ∈ wsL_law0_r2, w ∈ lw_tbl := mem_r _ [129, 112, 113, 19, 130, 43, 44, 45, 46, 57, 67, 47, 48, 16, 68, 50, 51, 52, 58, 53, 59, 60, 61, 62] (by decide +kernel)
set_option maxRecDepth 20000 in
theorem wsL_law0_r3_in : ∀ w ∈ wsL_law0_r3, w ∈ lw_tbl := mem_r _ [63, 65, 0, 66, 77, 78, 79, 80, 81, 82, 83, 84, 99, 100, 101, 102, 104, 106, 115, 116, 117, 118, 120, 121] (by decide +kernel)
set_option maxRecDepth 20000 in
theorem wsL_law0_r4_in : ∀ w ∈ wsL_law0_r4, w ∈ lw_tbl := mem_r _ [824, 825, 826, 827, 829, 830, 831, 833, 835, 417, 418, 13, 419, 420, 441, 442, 443, 444, 445, 446, 447, 448, 449, 155] (by decide +kernel)
set_option maxRecDepth 20000 in
theorem wsL_law0_r5_in : ∀ w ∈ wsL_law0_r5, w ∈ lw_tbl := mem_r _ [156, 157, 158, 159, 24, 450, 451, 452, 453, 27, 469, 470, 471, 472, 474, 475, 28, 476, 473, 148, 149, 28, 150, 151] (by decide +kernel)
set_option maxRecDepth 20000 in
theorem wsL_law0_r6_in : ∀ w ∈ wsL_law0_r6, w ∈ lw_tbl := mem_r _ [153, 1, 154, 857, 858, 859, 860, 861, 863, 7, 864, 828, 865, 866, 867, 868, 870, 8, 871, 872, 873, 874, 875, 877] (by decide +kernel)
set_option maxRecDepth 20000 in
theorem wsL_law0_r7_in : ∀ w ∈ wsL_law0_r7, w ∈ lw_tbl := mem_r _ [9, 878, 832, 853, 854, 855, 856, 477, 478, 479, 480, 481, 482, 483, 879, 880, 881, 882, 883, 884, 885, 484, 485, 486] (by decide +kernel)
set_option maxRecDepth 20000 in
theorem wsL_law0_r8_in : ∀ w ∈ wsL_law0_r8, w ∈ lw_tbl := mem_r _ [487, 488, 489, 490, 491, 886, 887, 888, 889, 890, 891, 892, 492, 493, 494, 495, 509, 510, 511, 512, 514, 29, 513, 517] (by decide +kernel)
set_option maxRecDepth 20000 in
theorem wsL_law0_r9_in : ∀ w ∈ wsL_law0_r9, w ∈ lw_tbl := mem_r _ [518, 519, 520, 521, 522, 523, 524, 525, 526, 527, 528, 893, 894, 895, 896, 897, 898, 899, 529, 530, 531, 532, 533, 534] (by decide +kernel)
set_option maxRecDepth 20000 in
theorem wsL_law0_r10_in : ∀ w ∈ wsL_law0_r10, w ∈ lw_tbl := mem_r _ [535, 537, 900, 901, 902, 903, 904, 905, 906, 538, 539, 540, 541, 542, 543, 544, 545, 546, 547, 548, 907, 908, 909, 910] (by decide +kernel)
set_option maxRecDepth 20000 in
theorem wsL_law0_r11_in : ∀ w ∈ wsL_law0_r11, w ∈ lw_tbl := mem_r _ [911, 912, 913, 549, 550, 551, 552, 553, 554, 555, 556, 561, 30, 557, 558, 559, 560, 914, 915, 916, 917, 140, 141, 142] (by decide +kernel)
set_option maxRecDepth 20000 in
theorem wsL_law0_r12_in : ∀ w ∈ wsL_law0_r12, w ∈ lw_tbl := mem_r _ [143, 144, 145, 146, 147, 918, 919, 920, 921, 577, 578, 579, 580, 581, 582, 583, 922, 923, 924, 925, 584, 585, 586, 587] (by decide +kernel)
set_option maxRecDepth 20000 in
theorem wsL_law0_r13_in : ∀ w ∈ wsL_law0_r13, w ∈ lw_tbl := mem_r _ [588, 589, 590, 591, 592, 593, 594, 926, 927, 928, 929, 930, 931, 932, 595, 596, 597, 598, 599, 600, 601, 603, 604, 605] (by decide +kernel)
set_option maxRecDepth 20000 in
theorem wsL_law0_r14_in : ∀ w ∈ wsL_law0_r14, w ∈ lw_tbl := mem_r _ [606, 933, 934, 935, 936, 607, 608, 609, 610, 611, 612, 613, 614, 615, 616, 617, 937, 938, 939, 940, 618, 619, 620, 621] (by decide +kernel)
set_option maxRecDepth 20000 in
theorem wsL_law0_r15_in : ∀ w ∈ wsL_law0_r15, w ∈ lw_tbl := mem_r _ [622, 623, 624, 625, 626, 627, 628, 941, 942, 943, 944, 629, 630, 631, 632, 633, 634, 635, 636, 637, 638, 639, 640, 276] (by decide +kernel)
set_option maxRecDepth 20000 in
theorem wsL_law0_r16_in : ∀ w ∈ wsL_law0_r16, w ∈ lw_tbl := mem_r _ [277, 278, 641, 280, 281, 282, 242, 244, 3, 245, 642, 264, 265, 266, 945, 946, 947, 948, 949, 950, 951, 952, 953, 954] (by decide +kernel)
set_option maxRecDepth 20000 in
theorem wsL_law0_r17_in : ∀ w ∈ wsL_law0_r17, w ∈ lw_tbl := mem_r _ [643, 644, 645, 646, 647, 648, 649, 650, 651, 652, 653, 955, 956, 957, 958, 959, 960, 961, 654, 655, 656, 657, 658, 659] (by decide +kernel)
set_option maxRecDepth 20000 in
theorem wsL_law0_r18_in : ∀ w ∈ wsL_law0_r18, w ∈ lw_tbl := mem_r _ [660, 962, 963, 964, 965, 661, 662, 663, 664, 665, 666, 667, 668, 669, 670, 671, 672, 673, 674, 675, 676, 678, 6, 679] (by decide +kernel)
set_option maxRecDepth 20000 in
theorem wsL_law0_r19_in : ∀ w ∈ wsL_law0_r19, w ∈ lw_tbl := mem_r _ [966, 967, 968, 969, 680, 681, 682, 683, 684, 685, 686, 105, 687, 970, 971, 972, 973, 230, 231, 232, 233, 234, 235, 236] (by decide +kernel)
set_option maxRecDepth 20000 in
theorem wsL_law0_r20_in : ∀ w ∈ wsL_law0_r20, w ∈ lw_tbl := mem_r _ [237, 238, 239, 240, 241, 974, 975, 976, 977, 978, 979, 980, 981, 246, 247, 248, 249, 250, 982, 251, 252, 253, 254, 255] (by decide +kernel)
set_option maxRecDepth 20000 in
theorem wsL_law0_r21_in : ∀ w ∈ wsL_law0_r21, w ∈ lw_tbl := mem_r _ [256, 257, 258, 983, 984, 985, 986, 688, 689, 690, 691, 692, 693, 694, 699, 695, 696, 697, 698, 987, 988, 989, 990, 991] (by decide +kernel)
set_option maxRecDepth 20000 in
theorem wsL_law0_r22_in : ∀ w ∈ wsL_law0_r22, w ∈ lw_tbl := mem_r _ [259, 260, 261, 262, 263, 992, 993, 994, 995, 702, 703, 704, 705, 706, 707, 708, 709, 710, 711, 712, 275, 283, 279, 297] (by decide +kernel)
set_option maxRecDepth 20000 in
theorem wsL_law0_r23_in : ∀ w ∈ wsL_law0_r23, w ∈ lw_tbl := mem_r _ [298, 299, 300, 996, 997, 998, 999, 1000, 1002, 10, 1003, 713, 714, 715, 716, 717, 718, 719, 720, 721, 722, 723, 724, 405] (by decide +kernel)
set_option maxRecDepth 20000 in
theorem wsL_law0_r24_in : ∀ w ∈ wsL_law0_r24, w ∈ lw_tbl := mem_r _ [1004, 1005, 1006, 1007, 267, 268, 269, 270, 271, 272, 273, 274, 284, 286, 4, 287, 1008, 1009, 1010, 1011, 1012, 1014, 11, 1015] (by decide +kernel)
set_option maxRecDepth 20000 in
theorem wsL_law0_r25_in : ∀ w ∈ wsL_law0_r25, w ∈ lw_tbl := mem_r _ [725, 726, 727, 728, 729, 730, 731, 732, 733, 734, 735, 296, 1016, 1017, 1018, 1019, 288, 289, 290, 291, 292, 293, 294, 295] (by decide +kernel)
set_option maxRecDepth 20000 in
theorem wsL_law0_r26_in : ∀ w ∈ wsL_law0_r26, w ∈ lw_tbl := mem_r _ [1020, 1021, 1022, 1023, 301, 302, 303, 304, 305, 1024, 1025, 1026, 1027, 736, 737, 738, 739, 740, 741, 742, 743, 744, 745, 746] (by decide +kernel)
set_option maxRecDepth 20000 in
theorem wsL_law0_r27_in : ∀ w ∈ wsL_law0_r27, w ∈ lw_tbl := mem_r _ [747, 748, 750, 751, 752, 753, 323, 324, 325, 754, 320, 321, 322, 1028, 1029, 1030, 1031, 834, 1032, 1033, 1034, 1035, 1036, 1037] (by decide +kernel)
set_option maxRecDepth 20000 in
theorem wsL_law0_r28_in : ∀ w ∈ wsL_law0_r28, w ∈ lw_tbl := mem_r _ [1038, 1039, 1040, 755, 756, 757, 758, 759, 760, 761, 1041, 1042, 1043, 1044, 306, 307, 308, 309, 310, 311, 312, 313, 314, 315] (by decide +kernel)
set_option maxRecDepth 20000 in
theorem wsL_law0_r29_in : ∀ w ∈ wsL_law0_r29, w ∈ lw_tbl := mem_r _ [316, 317, 318, 319, 326, 328, 5, 329, 330, 331, 332, 333, 334, 335, 1045, 1046, 1047, 1048, 1049, 1051, 12, 1052, 1053, 1054] (by decide +kernel)
set_option maxRecDepth 20000 in
theorem wsL_law0_r30_in : ∀ w ∈ wsL_law0_r30, w ∈ lw_tbl := mem_r _ [1055, 336, 337, 338, 339, 340, 341, 342, 343, 1056, 1057, 1058, 1059, 762, 763, 764, 765, 766, 767, 768, 769, 774, 31, 770] (by decide +kernel)
set_option maxRecDepth 20000 in
theorem wsL_law0_r31_in : ∀ w ∈ wsL_law0_r31, w ∈ lw_tbl := mem_r _ [771, 772, 773, 356, 357, 358, 359, 1060, 1061, 1062, 1063, 344, 345, 346, 347, 348, 349, 350, 351, 1064, 1065, 1066, 1067, 352] (by decide +kernel)
set_option maxRecDepth 20000 in
theorem wsL_law0_r32_in : ∀ w ∈ wsL_law0_r32, w ∈ lw_tbl := mem_r _ [353, 354, 355, 1068, 1069, 1070, 1071, 1072, 360, 361, 362, 363, 364, 365, 366, 367, 368, 369, 32, 370, 371, 372, 373, 1073] (by decide +kernel)
set_option maxRecDepth 20000 in
theorem wsL_law0_r33_in : ∀ w ∈ wsL_law0_r33, w ∈ lw_tbl := mem_r _ [1074, 1075, 1076, 374, 375, 376, 377, 378, 1077, 1078, 1079, 1080, 1081, 379, 380, 381, 382, 387, 383, 384, 385, 386, 1082, 1083] (by decide +kernel)
set_option maxRecDepth 20000 in
theorem wsL_law0_r34_in : ∀ w ∈ wsL_law0_r34, w ∈ lw_tbl := mem_r _ [1084, 1085, 1086, 790, 791, 792, 793, 794, 795, 796, 797, 798, 799, 800, 801, 802, 803, 804, 805, 806, 807, 808, 809, 810] (by decide +kernel)
set_option maxRecDepth 20000 in
theorem wsL_law0_r35_in : ∀ w ∈ wsL_law0_r35, w ∈ lw_tbl := mem_r _ [811, 812, 813, 814, 815, 816, 817, 818, 819, 820, 821, 1087, 1088, 1089, 1090, 388, 389, 390, 391, 392, 393, 394, 395, 396] (by decide +kernel)
set_option maxRecDepth 20000 in
theorem wsL_law0_r36_in : ∀ w ∈ wsL_law0_r36, w ∈ lw_tbl := mem_r _ [398, 399, 400, 401, 402, 403, 404, 407, 408, 409, 410, 412, 413, 414, 415, 416, 1091, 1092, 1093, 1094, 1095, 1096] (by decide +kernel)
theorem wsX50_tb : ∀ w ∈ wsX50, w ∈ lw_tbl := mem_r _ [131, 133, 135, 137] (by decide +kernel)
theorem wsX60_tb : ∀ w ∈ wsX60, w ∈ lw_tbl := mem_r _ [836, 838, 840, 842, 844, 846, 848, 850] (by decide +kernel)
theorem wsX30_tb : ∀ w ∈ wsX30, w ∈ lw_tbl := mem_r _ [69, 71] (by decide +kernel)
theorem wsX40_tb : ∀ w ∈ wsX40, w ∈ lw_tbl := mem_r _ [85, 87, 89, 91, 93] (by decide +kernel)
theorem wsX00_tb : ∀ w ∈ wsX00, w ∈ lw_tbl := mem_r _ [107, 109] (by decide +kernel)
theorem wsX10_tb : ∀ w ∈ wsX10, w ∈ lw_tbl := mem_r _ [122, 124] (by decide +kernel)
theorem wsX20_tb : ∀ w ∈ wsX20, w ∈ lw_tbl := mem_r _ [54] (by decide +kernel)
set_option maxRecDepth 100000 in
theorem wsL_law_in0 : ∀ w ∈ wsL_law0, w ∈ lw_tbl := fun w h => (fun h => (List.mem_append.mp h).elim (fun h => (List.mem_append.mp h).elim (fun h => (List.mem_append.mp h).elim (fun h => (List.mem_append.mp h).elim (fun h => (List.mem_append.mp h).elim (fun h => (List.mem_append.mp h).elim (fun h => (List.mem_append.mp h).elim (fun h => (List.mem_append.mp h).elim (fun h => (List.mem_append.mp h).elim (wsL_law0_r1_in w) (fun h => (List.mem_append.mp h).elim (wsL_law0_r2_in w) (fun h => (List.mem_append.mp h).elim (wsL_law0_r3_in w) (fun h => (List.mem_append.mp h).elim (wsL_law0_r4_in w) (fun h => (List.mem_append.mp h).elim (wsL_law0_r5_in w) (fun h => (List.mem_append.mp h).elim (wsL_law0_r6_in w) (fun h => (List.mem_append.mp h).elim (wsL_law0_r7_in w) (fun h => (List.mem_append.mp h).elim (wsL_law0_r8_in w) (fun h => (List.mem_append.mp h).elim (wsL_law0_r9_in w) (fun h => (List.mem_append.mp h).elim (wsL_law0_r10_in w) (fun h => (List.mem_append.mp h).elim (wsL_law0_r11_in w) (fun h => (List.mem_append.mp h).elim (wsL_law0_r12_in w) (fun h => (List.mem_append.mp h).elim (wsL_law0_r13_in w) (fun h => (List.mem_append.mp h).elim (wsL_law0_r14_in w) (fun h => (List.mem_append.mp h).elim (wsL_law0_r15_in w) (fun h => (List.mem_append.mp h).elim (wsL_law0_r16_in w) (fun h => (List.mem_append.mp h).elim (wsL_law0_r17_in w) (fun h => (List.mem_append.mp h).elim (wsL_law0_r18_in w) (fun h => (List.mem_append.mp h).elim (wsL_law0_r19_in w) (fun h => (List.mem_append.mp h).elim (wsL_law0_r20_in w) (fun h => (List.mem_append.mp h).elim (wsL_law0_r21_in w) (fun h => (List.mem_append.mp h).elim (wsL_law0_r22_in w) (fun h => (List.mem_append.mp h).elim (wsL_law0_r23_in w) (fun h => (List.mem_append.mp h).elim (wsL_law0_r24_in w) (fun h => (List.mem_append.mp h).elim (wsL_law0_r25_in w) (fun h => (List.mem_append.mp h).elim (wsL_law0_r26_in w) (fun h => (List.mem_append.mp h).elim (wsL_law0_r27_in w) (fun h => (List.mem_append.mp h).elim (wsL_law0_r28_in w) (fun h => (List.mem_append.mp h).elim (wsL_law0_r29_in w) (fun h => (List.mem_append.mp h).elim (wsL_law0_r30_in w) (fun h => (List.mem_append.mp h).elim (wsL_law0_r31_in w) (fun h => (List.mem_append.mp h).elim (wsL_law0_r32_in w) (fun h => (List.mem_append.mp h).elim (wsL_law0_r33_in w) (fun h => (List.mem_append.mp h).elim (wsL_law0_r34_in w) (fun h => (List.mem_append.mp h).elim (wsL_law0_r35_in w) (fun h => wsL_law0_r36_in w h)))))))))))))))))))))))))))))))))))) (wsX50_tb w)) (wsX60_tb w)) (wsX30_tb w)) (wsX40_tb w)) (wsX00_tb w)) (wsX10_tb w)) (wsX20_tb w)) (fun h => absurd h List.not_mem_nil)) h
theorem wsL_law_x0 : ∀ w ∈ (vx_atM "java/lang/ArrayIndexOutOfBoundsException" ["java/lang/IndexOutOfBoundsException", "java/lang/RuntimeException", "java/lang/Exception"]).filter goodWord, w ∈ lw_tbl := by decide +kernel
theorem wsL_law_x1 : ∀ w ∈ (vx_atM "java/lang/ArithmeticException" ["java/lang/RuntimeException", "java/lang/Exception"]).filter goodWord, w ∈ lw_tbl := by decide +kernel
theorem wsL_law_x2 : ∀ w ∈ (vx_atS RX4 32 "java/lang/IndexOutOfBoundsException" ["java/lang/RuntimeException", "java/lang/Exception"]).filter goodWord, w ∈ lw_tbl := by decide +kernel
theorem wsL_law_x3 : ∀ w ∈ (vx_atS RX5 70 "java/lang/IllegalArgumentException" ["java/lang/RuntimeException", "java/lang/Exception"]).filter goodWord, w ∈ lw_tbl := by decide +kernel
theorem wsL_law_x4 : ∀ w ∈ (vx_atS RX5 60 "java/lang/ArithmeticException" ["java/lang/RuntimeException", "java/lang/Exception"]).filter goodWord, w ∈ lw_tbl := by decide +kernel
theorem wsL_law_x5 : ∀ w ∈ (wx_at13 RX5 85).filter goodWord, w ∈ lw_tbl := by decide +kernel
theorem wsL_law_x6 : ∀ w ∈ (vx_atS RX5 142 "java/lang/IndexOutOfBoundsException" ["java/lang/RuntimeException", "java/lang/Exception"]).filter goodWord, w ∈ lw_tbl := by decide +kernel
theorem wsL_law_x7 : ∀ w ∈ (vx_atS RX5 194 "java/lang/IllegalStateException" ["java/lang/RuntimeException", "java/lang/Exception"]).filter goodWord, w ∈ lw_tbl := by decide +kernel
theorem wsL_law_in : ∀ w ∈ wsL_law, w ∈ lw_tbl := fun w h => (List.mem_append.mp h).elim (fun h => (List.mem_append.mp h).elim (fun h => (List.mem_append.mp h).elim (fun h => (List.mem_append.mp h).elim (fun h => (List.mem_append.mp h).elim (fun h => (List.mem_append.mp h).elim (fun h => (List.mem_append.mp h).elim (fun h => (List.mem_append.mp h).elim (fun h => wsL_law_in0 w h) (fun h => wsL_law_x0 w h)) (fun h => wsL_law_x1 w h)) (fun h => wsL_law_x2 w h)) (fun h => wsL_law_x3 w h)) (fun h => wsL_law_x4 w h)) (fun h => wsL_law_x5 w h)) (fun h => wsL_law_x6 w h)) (fun h => wsL_law_x7 w h)
theorem inlX0 : ∀ w ∈ wsX00, w ∈ wsL_law := fun _ h => List.mem_append_left _ (List.mem_append_left _ (List.mem_append_left _ (List.mem_append_left _ (List.mem_append_left _ (List.mem_append_left _ (List.mem_append_left _ (List.mem_append_left _ (List.mem_append_left _ (List.mem_append_left _ (List.mem_append_left _ (List.mem_append_right _ h)))))))))))
theorem inX0 : ∀ w ∈ wsX00, w ∈ lw_tbl := fun w h => wsL_law_in w (inlX0 w h)
theorem inlX1 : ∀ w ∈ wsX10, w ∈ wsL_law := fun _ h => List.mem_append_left _ (List.mem_append_left _ (List.mem_append_left _ (List.mem_append_left _ (List.mem_append_left _ (List.mem_append_left _ (List.mem_append_left _ (List.mem_append_left _ (List.mem_append_left _ (List.mem_append_left _ (List.mem_append_right _ h))))))))))
theorem inX1 : ∀ w ∈ wsX10, w ∈ lw_tbl := fun w h => wsL_law_in w (inlX1 w h)
theorem inlX2 : ∀ w ∈ wsX20, w ∈ wsL_law := fun _ h => List.mem_append_left _ (List.mem_append_left _ (List.mem_append_left _ (List.mem_append_left _ (List.mem_append_left _ (List.mem_append_left _ (List.mem_append_left _ (List.mem_append_left _ (List.mem_append_left _ (List.mem_append_right _ h)))))))))
theorem inX2 : ∀ w ∈ wsX20, w ∈ lw_tbl := fun w h => wsL_law_in w (inlX2 w h)
theorem inlX3 : ∀ w ∈ wsX30, w ∈ wsL_law := fun _ h => List.mem_append_left _ (List.mem_append_left _ (List.mem_append_left _ (List.mem_append_left _ (List.mem_append_left _ (List.mem_append_left _ (List.mem_append_left _ (List.mem_append_left _ (List.mem_append_left _ (List.mem_append_left _ (List.mem_append_left _ (List.mem_append_left _ (List.mem_append_left _ (List.mem_append_right _ h)))))))))))))
theorem inX3 : ∀ w ∈ wsX30, w ∈ lw_tbl := fun w h => wsL_law_in w (inlX3 w h)
theorem inlX4 : ∀ w ∈ wsX40, w ∈ wsL_law := fun _ h => List.mem_append_left _ (List.mem_append_left _ (List.mem_append_left _ (List.mem_append_left _ (List.mem_append_left _ (List.mem_append_left _ (List.mem_append_left _ (List.mem_append_left _ (List.mem_append_left _ (List.mem_append_left _ (List.mem_append_left _ (List.mem_append_left _ (List.mem_append_right _ h))))))))))))
theorem inX4 : ∀ w ∈ wsX40, w ∈ lw_tbl := fun w h => wsL_law_in w (inlX4 w h)
theorem inlX5 : ∀ w ∈ wsX50, w ∈ wsL_law := fun _ h => List.mem_append_left _ (List.mem_append_left _ (List.mem_append_left _ (List.mem_append_left _ (List.mem_append_left _ (List.mem_append_left _ (List.mem_append_left _ (List.mem_append_left _ (List.mem_append_left _ (List.mem_append_left _ (List.mem_append_left _ (List.mem_append_left _ (List.mem_append_left _ (List.mem_append_left _ (List.mem_append_left _ (List.mem_append_right _ h)))))))))))))))
theorem inX5 : ∀ w ∈ wsX50, w ∈ lw_tbl := fun w h => wsL_law_in w (inlX5 w h)
theorem inlX6 : ∀ w ∈ wsX60, w ∈ wsL_law := fun _ h => List.mem_append_left _ (List.mem_append_left _ (List.mem_append_left _ (List.mem_append_left _ (List.mem_append_left _ (List.mem_append_left _ (List.mem_append_left _ (List.mem_append_left _ (List.mem_append_left _ (List.mem_append_left _ (List.mem_append_left _ (List.mem_append_left _ (List.mem_append_left _ (List.mem_append_left _ (List.mem_append_right _ h))))))))))))))
theorem inX6 : ∀ w ∈ wsX60, w ∈ lw_tbl := fun w h => wsL_law_in w (inlX6 w h)
