set_option maxRecDepth 20000 in
theorem wsL_law0_r1_in : ∀ w ∈ wsL_law0_r1, w ∈ lw_tbl := mem_r _ [34, 35, 15, 827, 828, 21, 1102, 36, 37, 38, 39, 40, 41, 42, 43, 16, 132, 75, 76, 18, 133, 97, 98, 19] (by decide +kernel)
set_option maxRecDepth 20000 in
theorem wsL_law0_r2_in : ∀ w ∈ wsL_law0_r2, w ∈ lw_tbl := mem_r _ [134, 113, 114, 20, 135, 44, 45, 46, 47, 58, 68, 48, 49, 17, 69, 51, 52, 53, 59, 54, 60, 61, 62, 63] (by decide +kernel)
set_option maxRecDepth 20000 in
theorem wsL_law0_r3_in : ∀ w ∈ wsL_law0_r3, w ∈ lw_tbl := mem_r _ [64, 66, 0, 67, 78, 79, 80, 81, 82, 83, 84, 85, 100, 101, 102, 103, 105, 107, 115, 116, 117, 118, 122, 119] (by decide +kernel)
set_option maxRecDepth 20000 in
theorem wsL_law0_r4_in : ∀ w ∈ wsL_law0_r4, w ∈ lw_tbl := mem_r _ [123, 124, 121, 829, 830, 831, 832, 834, 835, 836, 838, 840, 422, 423, 14, 424, 425, 446, 447, 448, 449, 450, 451, 452] (by decide +kernel)
set_option maxRecDepth 20000 in
theorem wsL_law0_r5_in : ∀ w ∈ wsL_law0_r5, w ∈ lw_tbl := mem_r _ [453, 454, 160, 161, 162, 163, 164, 25, 455, 456, 457, 458, 28, 474, 475, 476, 477, 479, 480, 29, 481, 478, 153, 154] (by decide +kernel)
set_option maxRecDepth 20000 in
theorem wsL_law0_r6_in : ∀ w ∈ wsL_law0_r6, w ∈ lw_tbl := mem_r _ [29, 155, 156, 158, 1, 159, 862, 863, 864, 865, 866, 868, 8, 869, 833, 870, 871, 872, 873, 875, 9, 876, 877, 878] (by decide +kernel)
set_option maxRecDepth 20000 in
theorem wsL_law0_r7_in : ∀ w ∈ wsL_law0_r7, w ∈ lw_tbl := mem_r _ [879, 880, 882, 10, 883, 837, 858, 859, 860, 861, 482, 483, 484, 485, 486, 487, 488, 884, 885, 886, 887, 888, 889, 890] (by decide +kernel)
set_option maxRecDepth 20000 in
theorem wsL_law0_r8_in : ∀ w ∈ wsL_law0_r8, w ∈ lw_tbl := mem_r _ [489, 490, 491, 492, 493, 494, 495, 496, 891, 892, 893, 894, 895, 896, 897, 497, 498, 499, 500, 514, 515, 516, 517, 519] (by decide +kernel)
set_option maxRecDepth 20000 in
theorem wsL_law0_r9_in : ∀ w ∈ wsL_law0_r9, w ∈ lw_tbl := mem_r _ [30, 518, 522, 523, 524, 525, 526, 527, 528, 529, 530, 531, 532, 533, 898, 899, 900, 901, 902, 903, 904, 534, 535, 536] (by decide +kernel)
set_option maxRecDepth 20000 in
theorem wsL_law0_r10_in : ∀ w ∈ wsL_law0_r10, w ∈ lw_tbl := mem_r _ [537, 538, 539, 540, 542, 905, 906, 907, 908, 909, 910, 911, 543, 544, 545, 546, 547, 548, 549, 550, 551, 552, 553, 912] (by decide +kernel)
set_option maxRecDepth 20000 in
theorem wsL_law0_r11_in : ∀ w ∈ wsL_law0_r11, w ∈ lw_tbl := mem_r _ [913, 914, 915, 916, 917, 918, 554, 555, 556, 557, 558, 559, 560, 561, 566, 31, 562, 563, 564, 565, 919, 920, 921, 922] (by decide +kernel)
set_option maxRecDepth 20000 in
theorem wsL_law0_r12_in : ∀ w ∈ wsL_law0_r12, w ∈ lw_tbl := mem_r _ [145, 146, 147, 148, 149, 150, 151, 152, 923, 924, 925, 926, 582, 583, 584, 585, 586, 587, 588, 927, 928, 929, 930, 589] (by decide +kernel)
set_option maxRecDepth 20000 in
theorem wsL_law0_r13_in : ∀ w ∈ wsL_law0_r13, w ∈ lw_tbl := mem_r _ [590, 591, 592, 593, 594, 595, 596, 597, 598, 599, 931, 932, 933, 934, 935, 936, 937, 600, 601, 602, 603, 604, 605, 606] (by decide +kernel)
set_option maxRecDepth 20000 in
theorem wsL_law0_r14_in : ∀ w ∈ wsL_law0_r14, w ∈ lw_tbl := mem_r _ [608, 609, 610, 611, 938, 939, 940, 941, 612, 613, 614, 615, 616, 617, 618, 619, 620, 621, 622, 942, 943, 944, 945, 623] (by decide +kernel)
set_option maxRecDepth 20000 in
theorem wsL_law0_r15_in : ∀ w ∈ wsL_law0_r15, w ∈ lw_tbl := mem_r _ [624, 625, 626, 627, 628, 629, 630, 631, 632, 633, 946, 947, 948, 949, 634, 635, 636, 637, 638, 639, 640, 641, 642, 643] (by decide +kernel)
set_option maxRecDepth 20000 in
theorem wsL_law0_r16_in : ∀ w ∈ wsL_law0_r16, w ∈ lw_tbl := mem_r _ [644, 645, 281, 282, 283, 646, 285, 286, 287, 247, 249, 3, 250, 647, 269, 270, 271, 950, 951, 952, 953, 954, 955, 956] (by decide +kernel)
set_option maxRecDepth 20000 in
theorem wsL_law0_r17_in : ∀ w ∈ wsL_law0_r17, w ∈ lw_tbl := mem_r _ [957, 958, 959, 648, 649, 650, 651, 652, 653, 654, 655, 656, 657, 658, 960, 961, 962, 963, 964, 965, 966, 659, 660, 661] (by decide +kernel)
set_option maxRecDepth 20000 in
theorem wsL_law0_r18_in : ∀ w ∈ wsL_law0_r18, w ∈ lw_tbl := mem_r _ [662, 663, 664, 665, 967, 968, 969, 970, 666, 667, 668, 669, 670, 671, 672, 673, 674, 675, 676, 677, 678, 679, 680, 681] (by decide +kernel)
set_option maxRecDepth 20000 in
theorem wsL_law0_r19_in : ∀ w ∈ wsL_law0_r19, w ∈ lw_tbl := mem_r _ [683, 7, 684, 971, 972, 973, 974, 685, 686, 687, 688, 689, 690, 691, 106, 692, 975, 976, 977, 978, 235, 236, 237, 238] (by decide +kernel)
set_option maxRecDepth 20000 in
theorem wsL_law0_r20_in : ∀ w ∈ wsL_law0_r20, w ∈ lw_tbl := mem_r _ [239, 240, 241, 242, 243, 244, 245, 246, 979, 980, 981, 982, 983, 984, 985, 986, 251, 252, 253, 254, 255, 987, 256, 257] (by decide +kernel)
set_option maxRecDepth 20000 in
theorem wsL_law0_r21_in : ∀ w ∈ wsL_law0_r21, w ∈ lw_tbl := mem_r _ [258, 259, 260, 261, 262, 263, 988, 989, 990, 991, 693, 694, 695, 696, 697, 698, 699, 704, 700, 701, 702, 703, 992, 993] (by decide +kernel)
set_option maxRecDepth 20000 in
theorem wsL_law0_r22_in : ∀ w ∈ wsL_law0_r22, w ∈ lw_tbl := mem_r _ [994, 995, 996, 264, 265, 266, 267, 268, 997, 998, 999, 1000, 707, 708, 709, 710, 711, 712, 713, 714, 715, 716, 717, 280] (by decide +kernel)
set_option maxRecDepth 20000 in
theorem wsL_law0_r23_in : ∀ w ∈ wsL_law0_r23, w ∈ lw_tbl := mem_r _ [288, 284, 302, 303, 304, 305, 1001, 1002, 1003, 1004, 1005, 1007, 11, 1008, 718, 719, 720, 721, 722, 723, 724, 725, 726, 727] (by decide +kernel)
set_option maxRecDepth 20000 in
theorem wsL_law0_r24_in : ∀ w ∈ wsL_law0_r24, w ∈ lw_tbl := mem_r _ [728, 729, 410, 1009, 1010, 1011, 1012, 272, 273, 274, 275, 276, 277, 278, 279, 289, 291, 4, 292, 1013, 1014, 1015, 1016, 1017] (by decide +kernel)
set_option maxRecDepth 20000 in
theorem wsL_law0_r25_in : ∀ w ∈ wsL_law0_r25, w ∈ lw_tbl := mem_r _ [1019, 12, 1020, 730, 731, 732, 733, 734, 735, 736, 737, 738, 739, 740, 301, 1021, 1022, 1023, 1024, 293, 294, 295, 296, 297] (by decide +kernel)
set_option maxRecDepth 20000 in
theorem wsL_law0_r26_in : ∀ w ∈ wsL_law0_r26, w ∈ lw_tbl := mem_r _ [298, 299, 300, 1025, 1026, 1027, 1028, 306, 307, 308, 309, 310, 1029, 1030, 1031, 1032, 741, 742, 743, 744, 745, 746, 747, 748] (by decide +kernel)
set_option maxRecDepth 20000 in
theorem wsL_law0_r27_in : ∀ w ∈ wsL_law0_r27, w ∈ lw_tbl := mem_r _ [749, 750, 751, 752, 753, 755, 756, 757, 758, 328, 329, 330, 759, 325, 326, 327, 1033, 1034, 1035, 1036, 839, 1037, 1038, 1039] (by decide +kernel)
set_option maxRecDepth 20000 in
theorem wsL_law0_r28_in : ∀ w ∈ wsL_law0_r28, w ∈ lw_tbl := mem_r _ [1040, 1041, 1042, 1043, 1044, 1045, 760, 761, 762, 763, 764, 765, 766, 1046, 1047, 1048, 1049, 311, 312, 313, 314, 315, 316, 317] (by decide +kernel)
set_option maxRecDepth 20000 in
theorem wsL_law0_r29_in : ∀ w ∈ wsL_law0_r29, w ∈ lw_tbl := mem_r _ [318, 319, 320, 321, 322, 323, 324, 331, 333, 5, 334, 335, 337, 6, 338, 339, 340, 1050, 1051, 1052, 1053, 1054, 1056, 13] (by decide +kernel)
set_option maxRecDepth 20000 in
theorem wsL_law0_r30_in : ∀ w ∈ wsL_law0_r30, w ∈ lw_tbl := mem_r _ [1057, 1058, 1059, 1060, 341, 342, 343, 344, 345, 346, 347, 348, 1061, 1062, 1063, 1064, 767, 768, 769, 770, 771, 772, 773, 774] (by decide +kernel)
set_option maxRecDepth 20000 in
theorem wsL_law0_r31_in : ∀ w ∈ wsL_law0_r31, w ∈ lw_tbl := mem_r _ [779, 32, 775, 776, 777, 778, 361, 362, 363, 364, 1065, 1066, 1067, 1068, 349, 350, 351, 352, 353, 354, 355, 356, 1069, 1070] (by decide +kernel)
set_option maxRecDepth 20000 in
theorem wsL_law0_r32_in : ∀ w ∈ wsL_law0_r32, w ∈ lw_tbl := mem_r _ [1071, 1072, 357, 358, 359, 360, 1073, 1074, 1075, 1076, 1077, 365, 366, 367, 368, 369, 370, 371, 372, 373, 374, 33, 375, 376] (by decide +kernel)
set_option maxRecDepth 20000 in
theorem wsL_law0_r33_in : ∀ w ∈ wsL_law0_r33, w ∈ lw_tbl := mem_r _ [377, 378, 1078, 1079, 1080, 1081, 379, 380, 381, 382, 383, 1082, 1083, 1084, 1085, 1086, 384, 385, 386, 387, 392, 388, 389, 390] (by decide +kernel)
set_option maxRecDepth 20000 in
theorem wsL_law0_r34_in : ∀ w ∈ wsL_law0_r34, w ∈ lw_tbl := mem_r _ [391, 1087, 1088, 1089, 1090, 1091, 795, 796, 797, 798, 799, 800, 801, 802, 803, 804, 805, 806, 807, 808, 809, 810, 811, 812] (by decide +kernel)
set_option maxRecDepth 20000 in
theorem wsL_law0_r35_in : ∀ w ∈ wsL_law0_r35, w ∈ lw_tbl := mem_r _ [813, 814, 815, 816, 817, 818, 819, 820, 821, 822, 823, 824, 825, 826, 1092, 1093, 1094, 1095, 393, 394, 395, 396, 397, 398] (by decide +kernel)
set_option maxRecDepth 20000 in
theorem wsL_law0_r36_in : ∀ w ∈ wsL_law0_r36, w ∈ lw_tbl := mem_r _ [399, 400, 401, 403, 404, 405, 406, 407, 408, 409, 412, 413, 414, 415, 417, 418, 419, 420, 421, 1096, 1097, 1098, 1099, 1100] (by decide +kernel)
set_option maxRecDepth 20000 in
theorem wsL_law0_r37_in : ∀ w ∈ wsL_law0_r37, w ∈ lw_tbl := mem_r _ [1101] (by decide +kernel)
theorem wsX50_tb : ∀ w ∈ wsX50, w ∈ lw_tbl := mem_r _ [136, 138, 140, 142] (by decide +kernel)
theorem wsX60_tb : ∀ w ∈ wsX60, w ∈ lw_tbl := mem_r _ [841, 843, 845, 847, 849, 851, 853, 855] (by decide +kernel)
theorem wsX30_tb : ∀ w ∈ wsX30, w ∈ lw_tbl := mem_r _ [70, 72] (by decide +kernel)
theorem wsX40_tb : ∀ w ∈ wsX40, w ∈ lw_tbl := mem_r _ [86, 88, 90, 92, 94] (by decide +kernel)
theorem wsX00_tb : ∀ w ∈ wsX00, w ∈ lw_tbl := mem_r _ [108, 110] (by decide +kernel)
theorem wsX10_tb : ∀ w ∈ wsX10, w ∈ lw_tbl := mem_r _ [125, 127, 129] (by decide +kernel)
theorem wsX20_tb : ∀ w ∈ wsX20, w ∈ lw_tbl := mem_r _ [55] (by decide +kernel)
set_option maxRecDepth 100000 in
theorem wsL_law_in0 : ∀ w ∈ wsL_law0, w ∈ lw_tbl := fun w h => (fun h => (List.mem_append.mp h).elim (fun h => (List.mem_append.mp h).elim (fun h => (List.mem_append.mp h).elim (fun h => (List.mem_append.mp h).elim (fun h => (List.mem_append.mp h).elim (fun h => (List.mem_append.mp h).elim (fun h => (List.mem_append.mp h).elim (fun h => (List.mem_append.mp h).elim (fun h => (List.mem_append.mp h).elim (wsL_law0_r1_in w) (fun h => (List.mem_append.mp h).elim (wsL_law0_r2_in w) (fun h => (List.mem_append.mp h).elim (wsL_law0_r3_in w) (fun h => (List.mem_append.mp h).elim (wsL_law0_r4_in w) (fun h => (List.mem_append.mp h).elim (wsL_law0_r5_in w) (fun h => (List.mem_append.mp h).elim (wsL_law0_r6_in w) (fun h => (List.mem_append.mp h).elim (wsL_law0_r7_in w) (fun h => (List.mem_append.mp h).elim (wsL_law0_r8_in w) (fun h => (List.mem_append.mp h).elim (wsL_law0_r9_in w) (fun h => (List.mem_append.mp h).elim (wsL_law0_r10_in w) (fun h => (List.mem_append.mp h).elim (wsL_law0_r11_in w) (fun h => (List.mem_append.mp h).elim (wsL_law0_r12_in w) (fun h => (List.mem_append.mp h).elim (wsL_law0_r13_in w) (fun h => (List.mem_append.mp h).elim (wsL_law0_r14_in w) (fun h => (List.mem_append.mp h).elim (wsL_law0_r15_in w) (fun h => (List.mem_append.mp h).elim (wsL_law0_r16_in w) (fun h => (List.mem_append.mp h).elim (wsL_law0_r17_in w) (fun h => (List.mem_append.mp h).elim (wsL_law0_r18_in w) (fun h => (List.mem_append.mp h).elim (wsL_law0_r19_in w) (fun h => (List.mem_append.mp h).elim (wsL_law0_r20_in w) (fun h => (List.mem_append.mp h).elim (wsL_law0_r21_in w) (fun h => (List.mem_append.mp h).elim (wsL_law0_r22_in w) (fun h => (List.mem_append.mp h).elim (wsL_law0_r23_in w) (fun h => (List.mem_append.mp h).elim (wsL_law0_r24_in w) (fun h => (List.mem_append.mp h).elim (wsL_law0_r25_in w) (fun h => (List.mem_append.mp h).elim (wsL_law0_r26_in w) (fun h => (List.mem_append.mp h).elim (wsL_law0_r27_in w) (fun h => (List.mem_append.mp h).elim (wsL_law0_r28_in w) (fun h => (List.mem_append.mp h).elim (wsL_law0_r29_in w) (fun h => (List.mem_append.mp h).elim (wsL_law0_r30_in w) (fun h => (List.mem_append.mp h).elim (wsL_law0_r31_in w) (fun h => (List.mem_append.mp h).elim (wsL_law0_r32_in w) (fun h => (List.mem_append.mp h).elim (wsL_law0_r33_in w) (fun h => (List.mem_append.mp h).elim (wsL_law0_r34_in w) (fun h => (List.mem_append.mp h).elim (wsL_law0_r35_in w) (fun h => (List.mem_append.mp h).elim (wsL_law0_r36_in w) (fun h => wsL_law0_r37_in w h))))))))))))))))))))))))))))))))))))) (wsX50_tb w)) (wsX60_tb w)) (wsX30_tb w)) (wsX40_tb w)) (wsX00_tb w)) (wsX10_tb w)) (wsX20_tb w)) (fun h => absurd h List.not_mem_nil)) h
theorem wsL_law_x0 : ∀ w ∈ (vx_atM "java/lang/ArrayIndexOutOfBoundsException" ["java/lang/IndexOutOfBoundsException", "java/lang/RuntimeException", "java/lang/Exception"]).filter goodWord, w ∈ lw_tbl := by decide +kernel
theorem wsL_law_x1 : ∀ w ∈ (vx_atM "java/lang/ArithmeticException" ["java/lang/RuntimeException", "java/lang/Exception"]).filter goodWord, w ∈ lw_tbl := by decide +kernel
theorem wsL_law_x2 : ∀ w ∈ (vx_atS RX4 32 "java/lang/IndexOutOfBoundsException" ["java/lang/RuntimeException", "java/lang/Exception"]).filter goodWord, w ∈ lw_tbl := by decide +kernel
theorem wsL_law_x3 : ∀ w ∈ (vx_atS RX5 72 "java/lang/IllegalArgumentException" ["java/lang/RuntimeException", "java/lang/Exception"]).filter goodWord, w ∈ lw_tbl := by decide +kernel
theorem wsL_law_x4 : ∀ w ∈ (vx_atS RX5 62 "java/lang/ArithmeticException" ["java/lang/RuntimeException", "java/lang/Exception"]).filter goodWord, w ∈ lw_tbl := by decide +kernel
theorem wsL_law_x5 : ∀ w ∈ (wx_at13 RX5 87).filter goodWord, w ∈ lw_tbl := by decide +kernel
theorem wsL_law_x6 : ∀ w ∈ (vx_atS RX5 144 "java/lang/IndexOutOfBoundsException" ["java/lang/RuntimeException", "java/lang/Exception"]).filter goodWord, w ∈ lw_tbl := by decide +kernel
theorem wsL_law_x7 : ∀ w ∈ (vx_atS RX5 195 "java/lang/IllegalStateException" ["java/lang/RuntimeException", "java/lang/Exception"]).filter goodWord, w ∈ lw_tbl := by decide +kernel
theorem wsL_law_in : ∀ w ∈ wsL_law, w ∈ lw_tbl := fun w h => (List.mem_append.mp h).elim (fun h => (List.mem_append.mp h).elim (fun h => (List.mem_append.mp h).elim (fun h => (List.mem_append.mp h).elim (fun h => (List.mem_append.mp h).elim (fun h => (List.mem_append.mp h).elim (fun h => (List.mem_append.mp h).elim (fun h => (List.mem_append.mp h).elim (fun h => wsL_law_in0 w h) (fun h => wsL_law_x0 w h)) (fun h => wsL_law_x1 w h)) (fun h => wsL_law_x2 w h)) (fun h => wsL_law_x3 w h)) (fun h => wsL_law_x4 w h)) (fun h => wsL_law_x5 w h)) (fun h => wsL_law_x6 w h)) (fun h => wsL_law_x7 w h)
theorem inlX0 : ∀ w ∈ wsX00, w ∈ wsL_law := fun _ h => List.mem_append_left _ (List.mem_append_left _ (List.mem_append_left _ (List.mem_append_left _ (List.mem_append_left _ (List.mem_append_left _ (List.mem_append_left _ (List.mem_append_left _ (List.mem_append_left _ (List.mem_append_left _ (List.mem_append_left _ (List.mem_append_right _ h)))))))))))
theorem inX0 : ∀ w ∈ wsX00, w ∈ lw_tbl := fun w h => wsL_law_in w (inlX0 w h)
theorem inlX1 : ∀ w ∈ wsX10, w ∈ wsL_law := fun _ h => List.mem_append_left _ (List.mem_append_left _ (List.mem_append_left _ (List.mem_append_left _ (List.mem_append_left _ (List.mem_append_left _ (List.mem_append_left _ (List.mem_append_left _ (List.mem_append_left _ (List.mem_append_left _ (List.mem_append_right _ h))))))))))
theorem inX1 : ∀ w ∈ wsX10, w ∈ lw_tbl := fun w h => wsL_law_in w (inlX1 w h)
theorem inlX2 : ∀ w ∈ wsX20, w ∈ wsL_law := fun _ h => List.mem_append_left _ (List.mem_append_left _ (List.mem_append_left _ (List.mem_append_left _ (List.mem_append_left _ (List.mem_append_left _ (List.mem_append_left _ (List.mem_append_left _ (List.mem_append_left _ (List.mem_append_right _ h)))))))))
theorem inX2 : ∀ w ∈ wsX20, w ∈ lw_tbl := fun w h => wsL_law_in w (inlX2 w h)
theorem inlX3 : ∀ w ∈ wsX30, w ∈ wsL_law := fun _ h => List.mem_append_left _ (List.mem_append_left _ (List.mem_append_left _ (List.mem_append_left _ (List.mem_append_left _ (List.mem_append_left _ (List.mem_append_left _ (List.mem_append_left _ (List.mem_append_left _ (List.mem_append_left _ (List.mem_append_left _ (List.mem_append_left _ (List.mem_append_left _ (List.mem_append_right _ h)))))))))))))
theorem inX3 : ∀ w ∈ wsX30, w ∈ lw_tbl := fun w h => wsL_law_in w (inlX3 w h)
theorem inlX4 : ∀ w ∈ wsX40, w ∈ wsL_law := fun _ h => List.mem_append_left _ (List.mem_append_left _ (List.mem_append_left _ (List.mem_append_left _ (List.mem_append_left _ (List.mem_append_left _ (List.mem_append_left _ (List.mem_append_left _ (List.mem_append_left _ (List.mem_append_left _ (List.mem_append_left _ (List.mem_append_left _ (List.mem_append_right _ h))))))))))))
theorem inX4 : ∀ w ∈ wsX40, w ∈ lw_tbl := fun w h => wsL_law_in w (inlX4 w h)
theorem inlX5 : ∀ w ∈ wsX50, w ∈ wsL_law := fun _ h => List.mem_append_left _ (List.mem_append_left _ (List.mem_append_left _ (List.mem_append_left _ (List.mem_append_left _ (List.mem_append_left _ (List.mem_append_left _ (List.mem_append_left _ (List.mem_append_left _ (List.mem_append_left _ (List.mem_append_left _ (List.mem_append_left _ (List.mem_append_left _ (List.mem_append_left _ (List.mem_append_left _ (List.mem_append_right _ h)))))))))))))))
theorem inX5 : ∀ w ∈ wsX50, w ∈ lw_tbl := fun w h => wsL_law_in w (inlX5 w h)
theorem inlX6 : ∀ w ∈ wsX60, w ∈ wsL_law := fun _ h => List.mem_append_left _ (List.mem_append_left _ (List.mem_append_left _ (List.mem_append_left _ (List.mem_append_left _ (List.mem_append_left _ (List.mem_append_left _ (List.mem_append_left _ (List.mem_append_left _ (List.mem_append_left _ (List.mem_append_left _ (List.mem_append_left _ (List.mem_append_left _ (List.mem_append_left _ (List.mem_append_right _ h))))))))))))))
theorem inX6 : ∀ w ∈ wsX60, w ∈ lw_tbl := fun w h => wsL_law_in w (inlX6 w h)
