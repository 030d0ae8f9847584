/-! THE LAW'S WORDS among the tables': by their places, chunk by chunk (printed by lawin.py) -/
theorem inP {big : List Cond} (ws : List Cond) (ps : List Nat) (hp : ws = ps.filterMap (fun i => big[i]?)) : ∀ w ∈ ws, w ∈ big := by
  intro w hw
  rw [hp] at hw
  obtain ⟨i, -, hi⟩ := List.mem_filterMap.mp hw
  exact List.mem_of_getElem? hi
set_option maxRecDepth 20000 in
theorem inL_r1 : ∀ w ∈ wsL_law_r1, w ∈ lw_tbl := inP _ [55, 56, 42, 769, 770, 51, 57, 58, 59, 60, 61, 62, 63, 313, 65, 43, 84, 85, 44, 314, 130, 131, 45, 315] (by decide +kernel)
set_option maxRecDepth 20000 in
theorem inL_r2 : ∀ w ∈ wsL_law_r2, w ∈ lw_tbl := inP _ [252, 253, 48, 316, 274, 275, 49, 317, 287, 288, 50, 318, 67, 68, 69, 83, 70, 75, 87, 88, 89, 90, 92, 94] (by decide +kernel)
set_option maxRecDepth 20000 in
theorem inL_r3 : ∀ w ∈ wsL_law_r3, w ∈ lw_tbl := inP _ [132, 133, 134, 135, 181, 185, 187, 136, 189, 138, 193, 140, 46, 166, 47, 142, 143, 144, 168, 169, 170, 254, 255, 256] (by decide +kernel)
set_option maxRecDepth 20000 in
theorem inL_r4 : ∀ w ∈ wsL_law_r4, w ∈ lw_tbl := inP _ [257, 258, 260, 264, 276, 277, 278, 279, 280, 281, 289, 290, 291, 292, 295, 296, 297, 298, 299, 771, 772, 773, 774, 778] (by decide +kernel)
set_option maxRecDepth 20000 in
theorem inL_r5 : ∀ w ∈ wsL_law_r5, w ∈ lw_tbl := inP _ [779, 780, 782, 783, 784, 785, 787, 788, 899, 789, 798, 799, 800, 801, 802, 803, 804, 805, 808, 809, 810, 811, 812, 813] (by decide +kernel)
set_option maxRecDepth 20000 in
theorem inL_r6 : ∀ w ∈ wsL_law_r6, w ∈ lw_tbl := inP _ [814, 338, 339, 340, 341, 320, 101, 294, 202, 342, 343, 344, 345, 346, 347, 348, 349, 350, 351, 73, 352, 353, 354, 355] (by decide +kernel)
set_option maxRecDepth 20000 in
theorem inL_r7 : ∀ w ∈ wsL_law_r7, w ∈ lw_tbl := inP _ [356, 357, 358, 359, 360, 362, 0, 363, 364, 365, 366, 367, 104, 105, 106, 100, 102, 103, 368, 370, 1, 371, 96, 98] (by decide +kernel)
set_option maxRecDepth 20000 in
theorem inL_r8 : ∀ w ∈ wsL_law_r8, w ∈ lw_tbl := inP _ [372, 374, 2, 375, 71, 376, 378, 3, 379, 381, 383, 4, 384, 385, 387, 5, 388, 389, 391, 6, 392, 393, 395, 7] (by decide +kernel)
set_option maxRecDepth 20000 in
theorem inL_r9 : ∀ w ∈ wsL_law_r9, w ∈ lw_tbl := inP _ [396, 397, 398, 399, 400, 99, 197, 97, 199, 203, 209, 215, 218, 221, 224, 91, 93, 95, 401, 403, 8, 404, 173, 175] (by decide +kernel)
set_option maxRecDepth 20000 in
theorem inL_r10 : ∀ w ∈ wsL_law_r10, w ∈ lw_tbl := inP _ [147, 151, 154, 156, 900, 901, 902, 903, 915, 793, 794, 776, 795, 777, 796, 781, 797, 786, 790, 791, 792, 807, 904, 905] (by decide +kernel)
set_option maxRecDepth 20000 in
theorem inL_r11 : ∀ w ∈ wsL_law_r11, w ∈ lw_tbl := inP _ [906, 907, 908, 909, 910, 911, 913, 18, 914, 775, 916, 918, 19, 919, 920, 921, 922, 923, 925, 20, 926, 927, 929, 21] (by decide +kernel)
set_option maxRecDepth 20000 in
theorem inL_r12 : ∀ w ∈ wsL_law_r12, w ∈ lw_tbl := inP _ [930, 931, 933, 22, 934, 935, 937, 23, 938, 939, 941, 24, 942, 405, 406, 407, 408, 184, 188, 409, 410, 411, 412, 414] (by decide +kernel)
set_option maxRecDepth 20000 in
theorem inL_r13 : ∀ w ∈ wsL_law_r13, w ∈ lw_tbl := inP _ [415, 416, 417, 418, 420, 9, 421, 422, 423, 424, 425, 427, 428, 429, 430, 431, 432, 152, 433, 434, 435, 436, 145, 943] (by decide +kernel)
set_option maxRecDepth 20000 in
theorem inL_r14 : ∀ w ∈ wsL_law_r14, w ∈ lw_tbl := inP _ [944, 945, 946, 947, 949, 25, 950, 951, 953, 26, 954, 955, 957, 27, 958, 959, 961, 28, 962, 437, 438, 439, 440, 191] (by decide +kernel)
set_option maxRecDepth 20000 in
theorem inL_r15 : ∀ w ∈ wsL_law_r15, w ∈ lw_tbl := inP _ [146, 149, 153, 155, 223, 441, 442, 443, 444, 445, 963, 964, 965, 966, 967, 969, 29, 970, 446, 447, 448, 449, 195, 172] (by decide +kernel)
set_option maxRecDepth 20000 in
theorem inL_r16 : ∀ w ∈ wsL_law_r16, w ∈ lw_tbl := inP _ [174, 217, 214, 450, 451, 452, 453, 454, 455, 971, 972, 973, 974, 975, 977, 30, 978, 456, 457, 458, 459, 220, 460, 461] (by decide +kernel)
set_option maxRecDepth 20000 in
theorem inL_r17 : ∀ w ∈ wsL_law_r17, w ∈ lw_tbl := inP _ [462, 463, 979, 980, 981, 982, 983, 984, 464, 465, 466, 467, 186, 468, 469, 470, 471, 985, 986, 987, 988, 472, 473, 474] (by decide +kernel)
set_option maxRecDepth 20000 in
theorem inL_r18 : ∀ w ∈ wsL_law_r18, w ∈ lw_tbl := inP _ [475, 989, 990, 991, 992, 476, 477, 478, 479, 993, 994, 995, 996, 480, 481, 482, 483, 484, 485, 486, 487, 219, 262, 200] (by decide +kernel)
set_option maxRecDepth 20000 in
theorem inL_r19 : ∀ w ∈ wsL_law_r19, w ∈ lw_tbl := inP _ [488, 489, 490, 491, 492, 196, 493, 494, 52, 495, 496, 497, 498, 500, 501, 502, 997, 998, 999, 1000, 1001, 1003, 31, 1004] (by decide +kernel)
set_option maxRecDepth 20000 in
theorem inL_r20 : ∀ w ∈ wsL_law_r20, w ∈ lw_tbl := inP _ [1005, 1006, 1007, 1008, 1009, 1010, 503, 504, 505, 506, 507, 508, 509, 510, 192, 150, 511, 512, 513, 514, 204, 515, 1011, 1012] (by decide +kernel)
set_option maxRecDepth 20000 in
theorem inL_r21 : ∀ w ∈ wsL_law_r21, w ∈ lw_tbl := inP _ [1013, 1014, 1015, 1017, 32, 1018, 516, 517, 518, 519, 520, 521, 522, 523, 524, 525, 526, 527, 528, 529, 1019, 1020, 1021, 1022] (by decide +kernel)
set_option maxRecDepth 20000 in
theorem inL_r22 : ∀ w ∈ wsL_law_r22, w ∈ lw_tbl := inP _ [1023, 1024, 1025, 1026, 1027, 1029, 33, 1030, 530, 531, 532, 533, 534, 535, 53, 536, 537, 538, 539, 1031, 1032, 1033, 1034, 1035] (by decide +kernel)
set_option maxRecDepth 20000 in
theorem inL_r23 : ∀ w ∈ wsL_law_r23, w ∈ lw_tbl := inP _ [1036, 1037, 540, 541, 542, 543, 544, 545, 546, 547, 549, 551, 10, 552, 1038, 1039, 1040, 1041, 1042, 1043, 1044, 553, 554, 555] (by decide +kernel)
set_option maxRecDepth 20000 in
theorem inL_r24 : ∀ w ∈ wsL_law_r24, w ∈ lw_tbl := inP _ [556, 557, 206, 558, 559, 560, 561, 562, 1045, 1046, 1047, 1048, 1049, 1050, 1051, 1052, 563, 564, 565, 566, 567, 569, 11, 570] (by decide +kernel)
set_option maxRecDepth 20000 in
theorem inL_r25 : ∀ w ∈ wsL_law_r25, w ∈ lw_tbl := inP _ [571, 572, 573, 574, 190, 148, 201, 182, 575, 576, 577, 578, 579, 580, 1053, 1054, 1055, 1056, 581, 582, 583, 584, 585, 586] (by decide +kernel)
set_option maxRecDepth 20000 in
theorem inL_r26 : ∀ w ∈ wsL_law_r26, w ∈ lw_tbl := inP _ [587, 588, 222, 589, 1057, 1058, 1059, 1060, 590, 591, 592, 593, 594, 595, 596, 597, 208, 213, 598, 599, 601, 12, 602, 216] (by decide +kernel)
set_option maxRecDepth 20000 in
theorem inL_r27 : ∀ w ∈ wsL_law_r27, w ∈ lw_tbl := inP _ [603, 604, 605, 606, 207, 194, 171, 183, 607, 608, 1061, 1062, 1063, 1064, 1065, 1067, 34, 1068, 1069, 1071, 35, 1072, 609, 610] (by decide +kernel)
set_option maxRecDepth 20000 in
theorem inL_r28 : ∀ w ∈ wsL_law_r28, w ∈ lw_tbl := inP _ [611, 612, 613, 614, 615, 616, 617, 618, 619, 620, 621, 622, 623, 624, 625, 259, 205, 261, 626, 627, 1073, 1074, 1075, 1076] (by decide +kernel)
set_option maxRecDepth 20000 in
theorem inL_r29 : ∀ w ∈ wsL_law_r29, w ∈ lw_tbl := inP _ [806, 1077, 1079, 36, 1080, 628, 629, 630, 631, 632, 633, 634, 635, 636, 1081, 1082, 1083, 1084, 1085, 637, 638, 639, 640, 641] (by decide +kernel)
set_option maxRecDepth 20000 in
theorem inL_r30 : ∀ w ∈ wsL_law_r30, w ∈ lw_tbl := inP _ [642, 643, 644, 1086, 1087, 1088, 1089, 645, 646, 647, 648, 649, 650, 651, 652, 293, 653, 654, 655, 656, 1090, 1091, 1092, 1093] (by decide +kernel)
set_option maxRecDepth 20000 in
theorem inL_r31 : ∀ w ∈ wsL_law_r31, w ∈ lw_tbl := inP _ [657, 658, 659, 660, 1094, 1095, 1096, 1097, 661, 662, 663, 664, 665, 666, 667, 668, 263, 212, 669, 670, 672, 13, 673, 674] (by decide +kernel)
set_option maxRecDepth 20000 in
theorem inL_r32 : ∀ w ∈ wsL_law_r32, w ∈ lw_tbl := inP _ [675, 1098, 1099, 1100, 1101, 1102, 1104, 37, 1105, 676, 677, 678, 679, 680, 681, 682, 683, 210, 684, 685, 686, 687, 1106, 1107] (by decide +kernel)
set_option maxRecDepth 20000 in
theorem inL_r33 : ∀ w ∈ wsL_law_r33, w ∈ lw_tbl := inP _ [1108, 1109, 688, 689, 690, 691, 692, 693, 694, 695, 1110, 1111, 1112, 1113, 696, 697, 698, 699, 700, 701, 702, 703, 704, 1114] (by decide +kernel)
set_option maxRecDepth 20000 in
theorem inL_r34 : ∀ w ∈ wsL_law_r34, w ∈ lw_tbl := inP _ [1115, 1116, 1117, 705, 706, 707, 708, 709, 710, 711, 712, 713, 714, 715, 716, 1118, 1119, 1120, 1121, 1122, 1124, 38, 1125, 717] (by decide +kernel)
set_option maxRecDepth 20000 in
theorem inL_r35 : ∀ w ∈ wsL_law_r35, w ∈ lw_tbl := inP _ [718, 719, 720, 72, 1126, 1127, 1128, 1129, 1130, 1132, 39, 1133, 721, 722, 723, 724, 74, 725, 727, 726, 54, 1134, 1135, 1136] (by decide +kernel)
set_option maxRecDepth 20000 in
theorem inL_r36 : ∀ w ∈ wsL_law_r36, w ∈ lw_tbl := inP _ [1137, 728, 729, 730, 731, 732, 734, 14, 735, 736, 738, 15, 739, 319, 740, 742, 16, 743, 744, 746, 17, 747, 1138, 1139] (by decide +kernel)
set_option maxRecDepth 20000 in
theorem inL_r37 : ∀ w ∈ wsL_law_r37, w ∈ lw_tbl := inP _ [1140, 1141, 1142, 1144, 40, 1145, 815, 748, 749, 750, 751, 1146, 1147, 1148, 1149, 752, 753, 754, 755, 756, 1150, 1151, 1152, 1153] (by decide +kernel)
set_option maxRecDepth 20000 in
theorem inL_r38 : ∀ w ∈ wsL_law_r38, w ∈ lw_tbl := inP _ [757, 758, 759, 760, 1154, 1155, 1156, 1157, 761, 762, 763, 764, 1158, 1159, 1160, 1161, 765, 766, 767, 768, 198, 211, 1162, 1163] (by decide +kernel)
set_option maxRecDepth 20000 in
theorem inL_r39 : ∀ w ∈ wsL_law_r39, w ∈ lw_tbl := inP _ [1164, 1165] (by decide +kernel)
set_option maxRecDepth 20000 in
theorem inT_X0 : ∀ w ∈ wsX00, w ∈ lw_tbl := inP _ [282, 284] (by decide +kernel)
set_option maxRecDepth 20000 in
theorem inT_X1 : ∀ w ∈ wsX10, w ∈ lw_tbl := inP _ [157, 159, 161, 163] (by decide +kernel)
set_option maxRecDepth 20000 in
theorem inT_X2 : ∀ w ∈ wsX20, w ∈ lw_tbl := inP _ [225, 227, 229, 231, 233, 235, 237, 239, 241, 243, 245, 247, 249] (by decide +kernel)
set_option maxRecDepth 20000 in
theorem inT_X3 : ∀ w ∈ wsX30, w ∈ lw_tbl := inP _ [300, 302, 304, 306, 308, 310] (by decide +kernel)
set_option maxRecDepth 20000 in
theorem inT_X4 : ∀ w ∈ wsX40, w ∈ lw_tbl := inP _ [76, 78, 80] (by decide +kernel)
set_option maxRecDepth 20000 in
theorem inT_X5 : ∀ w ∈ wsX50, w ∈ lw_tbl := inP _ [265, 267, 269, 271] (by decide +kernel)
set_option maxRecDepth 20000 in
theorem inT_X6 : ∀ w ∈ wsX60, w ∈ lw_tbl := inP _ [107, 109, 111, 113, 115, 117, 119, 121, 123, 125, 127] (by decide +kernel)
set_option maxRecDepth 20000 in
theorem inT_X7 : ∀ w ∈ wsX70, w ∈ lw_tbl := inP _ [176, 178] (by decide +kernel)
set_option maxRecDepth 20000 in
theorem inT_X8 : ∀ w ∈ wsX80, w ∈ lw_tbl := inP _ [321, 323, 325, 327, 329, 331, 333, 335] (by decide +kernel)
set_option maxRecDepth 20000 in
theorem inT_X9 : ∀ w ∈ wsX90, w ∈ lw_tbl := inP _ [816, 818, 820, 822, 824, 826, 828, 830, 832, 834, 836, 838, 840, 842, 844, 846, 848, 850, 852, 854, 856, 858, 860, 862, 864, 866, 868, 870, 872, 874, 876, 878, 880, 882, 884, 886, 888, 890, 892, 894, 896] (by decide +kernel)
theorem inAp {big a b : List Cond} (ha : ∀ w ∈ a, w ∈ big) (hb : ∀ w ∈ b, w ∈ big) : ∀ w ∈ a ++ b, w ∈ big := fun w h => (List.mem_append.mp h).elim (ha w) (hb w)
theorem wsL_in : ∀ w ∈ wsL_law, w ∈ lw_tbl := inAp (inAp (inAp (inAp (inAp (inAp (inAp (inAp (inAp (inAp (inAp (inAp (inL_r1) (inAp (inL_r2) (inAp (inL_r3) (inAp (inL_r4) (inAp (inL_r5) (inAp (inL_r6) (inAp (inL_r7) (inAp (inL_r8) (inAp (inL_r9) (inAp (inL_r10) (inAp (inL_r11) (inAp (inL_r12) (inAp (inL_r13) (inAp (inL_r14) (inAp (inL_r15) (inAp (inL_r16) (inAp (inL_r17) (inAp (inL_r18) (inAp (inL_r19) (inAp (inL_r20) (inAp (inL_r21) (inAp (inL_r22) (inAp (inL_r23) (inAp (inL_r24) (inAp (inL_r25) (inAp (inL_r26) (inAp (inL_r27) (inAp (inL_r28) (inAp (inL_r29) (inAp (inL_r30) (inAp (inL_r31) (inAp (inL_r32) (inAp (inL_r33) (inAp (inL_r34) (inAp (inL_r35) (inAp (inL_r36) (inAp (inL_r37) (inAp (inL_r38) (inL_r39))))))))))))))))))))))))))))))))))))))) (inT_X8)) (inT_X9)) (inT_X4)) (inT_X6)) (inT_X2)) (inT_X5)) (inT_X0)) (inT_X3)) (inT_X1)) (inT_X7)) (fun _ h => absurd h List.not_mem_nil)
set_option maxRecDepth 20000 in
theorem inNest : ∀ w ∈ nestL, w ∈ lw_tbl := inP _ [66, 86, 141, 167, 380, 413, 426, 499, 548] (by decide +kernel)
set_option maxRecDepth 20000 in
theorem inArr : ∀ w ∈ ([.arrayClass .int, .arrayClass .boolean, .arrayOver (.object "SeenNumbers$House"), .arrayOver (.object "SeenNumbers$Tree"), .arrayOver (.object "SeenNumbers$Sheet")] : List Cond), w ∈ lw_tbl := inP _ [83, 899, 137, 139, 64] (by decide +kernel)
set_option maxRecDepth 20000 in
theorem inIns : ∀ w ∈ ([.instantiable RX0 2, .instantiable RX1 4, .instantiable RX2 13, .instantiable RX3 6, .instantiable RX4 3, .instantiable RX5 4, .instantiable RX6 11, .instantiable RX7 2, .instantiable RX8 8, .instantiable RX9 41] : List Cond), w ∈ lw_tbl := inP _ [275, 140, 131, 288, 65, 253, 85, 166, 56, 770] (by decide +kernel)
