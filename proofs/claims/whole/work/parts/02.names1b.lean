set_option maxRecDepth 100000 in
theorem in_wsL_law_r1 : ∀ w ∈ wsL_law_r1, w ∈ lw_tbl := fun w h => (goodIn_r wsL_law_r1 [69, 70, 54, 701, 702, 60, 1130, 71, 72, 73, 74, 75, 76, 77, 78, 55, 207, 208, 209, 210, 140, 141, 57, 211] (by decide +kernel) (by decide +kernel) w h).1
set_option maxRecDepth 100000 in
theorem in_wsL_law_r2 : ∀ w ∈ wsL_law_r2, w ∈ lw_tbl := fun w h => (goodIn_r wsL_law_r2 [173, 174, 58, 212, 186, 213, 188, 59, 139, 214, 79, 80, 81, 82, 86, 88, 90, 92, 94, 97, 100, 102, 104, 106] (by decide +kernel) (by decide +kernel) w h).1
set_option maxRecDepth 100000 in
theorem in_wsL_law_r3 : ∀ w ∈ wsL_law_r3, w ∈ lw_tbl := fun w h => (goodIn_r wsL_law_r3 [108, 110, 111, 83, 84, 56, 85, 142, 143, 144, 145, 150, 151, 146, 147, 148, 149, 154, 156, 157, 158, 175, 176, 177] (by decide +kernel) (by decide +kernel) w h).1
set_option maxRecDepth 100000 in
theorem in_wsL_law_r4 : ∀ w ∈ wsL_law_r4, w ∈ lw_tbl := fun w h => (goodIn_r wsL_law_r4 [178, 179, 180, 189, 190, 191, 192, 193, 195, 206, 197, 703, 704, 705, 706, 707, 708, 709, 710, 711, 712, 720, 721, 722] (by decide +kernel) (by decide +kernel) w h).1
set_option maxRecDepth 100000 in
theorem in_wsL_law_r5 : ∀ w ∈ wsL_law_r5, w ∈ lw_tbl := fun w h => (goodIn_r wsL_law_r5 [723, 724, 725, 232, 233, 234, 235, 242, 89, 91, 93, 236, 237, 238, 239, 240, 241, 243, 245, 0, 246, 768, 769, 770] (by decide +kernel) (by decide +kernel) w h).1
set_option maxRecDepth 100000 in
theorem in_wsL_law_r6 : ∀ w ∈ wsL_law_r6, w ∈ lw_tbl := fun w h => (goodIn_r wsL_law_r6 [771, 782, 772, 773, 774, 775, 776, 777, 778, 780, 12, 781, 783, 785, 13, 786, 247, 248, 249, 250, 95, 787, 788, 789] (by decide +kernel) (by decide +kernel) w h).1
set_option maxRecDepth 100000 in
theorem in_wsL_law_r7 : ∀ w ∈ wsL_law_r7, w ∈ lw_tbl := fun w h => (goodIn_r wsL_law_r7 [790, 791, 793, 14, 794, 795, 797, 15, 798, 799, 801, 16, 802, 251, 252, 253, 254, 87, 255, 256, 257, 258, 259, 260] (by decide +kernel) (by decide +kernel) w h).1
set_option maxRecDepth 100000 in
theorem in_wsL_law_r8 : ∀ w ∈ wsL_law_r8, w ∈ lw_tbl := fun w h => (goodIn_r wsL_law_r8 [61, 261, 262, 263, 264, 265, 266, 267, 268, 269, 270, 271, 272, 273, 274, 275, 276, 277, 278, 279, 280, 281, 282, 283] (by decide +kernel) (by decide +kernel) w h).1
set_option maxRecDepth 100000 in
theorem in_wsL_law_r9 : ∀ w ∈ wsL_law_r9, w ∈ lw_tbl := fun w h => (goodIn_r wsL_law_r9 [803, 804, 805, 806, 807, 809, 17, 810, 811, 813, 18, 814, 815, 817, 19, 818, 819, 821, 20, 822, 823, 825, 21, 826] (by decide +kernel) (by decide +kernel) w h).1
set_option maxRecDepth 100000 in
theorem in_wsL_law_r10 : ∀ w ∈ wsL_law_r10, w ∈ lw_tbl := fun w h => (goodIn_r wsL_law_r10 [827, 829, 22, 830, 284, 285, 286, 287, 99, 291, 292, 288, 289, 290, 293, 294, 295, 296, 831, 832, 833, 834, 838, 839] (by decide +kernel) (by decide +kernel) w h).1
set_option maxRecDepth 100000 in
theorem in_wsL_law_r11 : ∀ w ∈ wsL_law_r11, w ∈ lw_tbl := fun w h => (goodIn_r wsL_law_r11 [835, 836, 837, 840, 842, 23, 843, 844, 846, 24, 847, 297, 298, 299, 300, 101, 103, 105, 107, 109, 301, 302, 303, 304] (by decide +kernel) (by decide +kernel) w h).1
set_option maxRecDepth 100000 in
theorem in_wsL_law_r12 : ∀ w ∈ wsL_law_r12, w ∈ lw_tbl := fun w h => (goodIn_r wsL_law_r12 [305, 306, 307, 308, 309, 310, 311, 312, 313, 314, 315, 316, 317, 318, 319, 320, 321, 322, 323, 62, 324, 325, 326, 327] (by decide +kernel) (by decide +kernel) w h).1
set_option maxRecDepth 100000 in
theorem in_wsL_law_r13 : ∀ w ∈ wsL_law_r13, w ∈ lw_tbl := fun w h => (goodIn_r wsL_law_r13 [328, 329, 330, 331, 332, 333, 334, 335, 337, 1, 338, 339, 340, 341, 342, 343, 848, 849, 850, 851, 852, 854, 25, 855] (by decide +kernel) (by decide +kernel) w h).1
set_option maxRecDepth 100000 in
theorem in_wsL_law_r14 : ∀ w ∈ wsL_law_r14, w ∈ lw_tbl := fun w h => (goodIn_r wsL_law_r14 [856, 858, 26, 859, 860, 862, 27, 863, 864, 866, 28, 867, 868, 870, 29, 871, 872, 874, 30, 875, 876, 878, 31, 879] (by decide +kernel) (by decide +kernel) w h).1
set_option maxRecDepth 100000 in
theorem in_wsL_law_r15 : ∀ w ∈ wsL_law_r15, w ∈ lw_tbl := fun w h => (goodIn_r wsL_law_r15 [344, 345, 346, 347, 880, 881, 882, 883, 884, 885, 886, 348, 349, 350, 351, 352, 353, 354, 355, 356, 357, 358, 359, 887] (by decide +kernel) (by decide +kernel) w h).1
set_option maxRecDepth 100000 in
theorem in_wsL_law_r16 : ∀ w ∈ wsL_law_r16, w ∈ lw_tbl := fun w h => (goodIn_r wsL_law_r16 [888, 889, 890, 360, 361, 362, 363, 364, 365, 366, 367, 891, 892, 893, 894, 895, 897, 32, 898, 368, 369, 370, 371, 899] (by decide +kernel) (by decide +kernel) w h).1
set_option maxRecDepth 100000 in
theorem in_wsL_law_r17 : ∀ w ∈ wsL_law_r17, w ∈ lw_tbl := fun w h => (goodIn_r wsL_law_r17 [900, 901, 902, 372, 373, 374, 375, 382, 376, 377, 378, 379, 380, 381, 903, 904, 905, 906, 907, 383, 384, 385, 386, 387] (by decide +kernel) (by decide +kernel) w h).1
set_option maxRecDepth 100000 in
theorem in_wsL_law_r18 : ∀ w ∈ wsL_law_r18, w ∈ lw_tbl := fun w h => (goodIn_r wsL_law_r18 [388, 389, 390, 391, 392, 393, 394, 395, 396, 397, 398, 399, 400, 401, 403, 404, 63, 405, 406, 407, 408, 402, 409, 908] (by decide +kernel) (by decide +kernel) w h).1
set_option maxRecDepth 100000 in
theorem in_wsL_law_r19 : ∀ w ∈ wsL_law_r19, w ∈ lw_tbl := fun w h => (goodIn_r wsL_law_r19 [909, 910, 911, 912, 913, 915, 33, 916, 917, 919, 34, 920, 921, 922, 923, 924, 925, 926, 410, 411, 412, 413, 414, 415] (by decide +kernel) (by decide +kernel) w h).1
set_option maxRecDepth 100000 in
theorem in_wsL_law_r20 : ∀ w ∈ wsL_law_r20, w ∈ lw_tbl := fun w h => (goodIn_r wsL_law_r20 [416, 417, 418, 420, 419, 64, 927, 928, 929, 930, 931, 933, 35, 934, 421, 422, 423, 424, 935, 936, 937, 938, 939, 941] (by decide +kernel) (by decide +kernel) w h).1
set_option maxRecDepth 100000 in
theorem in_wsL_law_r21 : ∀ w ∈ wsL_law_r21, w ∈ lw_tbl := fun w h => (goodIn_r wsL_law_r21 [36, 942, 425, 426, 427, 428, 431, 429, 430, 943, 944, 945, 946, 947, 432, 433, 434, 435, 436, 948, 949, 950, 951, 437] (by decide +kernel) (by decide +kernel) w h).1
set_option maxRecDepth 100000 in
theorem in_wsL_law_r22 : ∀ w ∈ wsL_law_r22, w ∈ lw_tbl := fun w h => (goodIn_r wsL_law_r22 [438, 439, 440, 952, 953, 954, 955, 441, 442, 443, 444, 956, 957, 958, 959, 960, 962, 37, 963, 445, 446, 447, 448, 964] (by decide +kernel) (by decide +kernel) w h).1
set_option maxRecDepth 100000 in
theorem in_wsL_law_r23 : ∀ w ∈ wsL_law_r23, w ∈ lw_tbl := fun w h => (goodIn_r wsL_law_r23 [965, 966, 967, 449, 450, 451, 452, 968, 969, 970, 971, 453, 454, 455, 456, 972, 973, 974, 975, 457, 458, 459, 460, 976] (by decide +kernel) (by decide +kernel) w h).1
set_option maxRecDepth 100000 in
theorem in_wsL_law_r24 : ∀ w ∈ wsL_law_r24, w ∈ lw_tbl := fun w h => (goodIn_r wsL_law_r24 [977, 978, 979, 461, 462, 463, 464, 465, 466, 467, 468, 980, 981, 982, 983, 469, 470, 471, 472, 152, 473, 474, 475, 476] (by decide +kernel) (by decide +kernel) w h).1
set_option maxRecDepth 100000 in
theorem in_wsL_law_r25 : ∀ w ∈ wsL_law_r25, w ∈ lw_tbl := fun w h => (goodIn_r wsL_law_r25 [984, 985, 986, 987, 713, 477, 478, 479, 480, 481, 482, 483, 484, 988, 989, 990, 991, 485, 486, 487, 488, 489, 490, 491] (by decide +kernel) (by decide +kernel) w h).1
set_option maxRecDepth 100000 in
theorem in_wsL_law_r26 : ∀ w ∈ wsL_law_r26, w ∈ lw_tbl := fun w h => (goodIn_r wsL_law_r26 [492, 153, 155, 493, 494, 495, 496, 497, 498, 499, 500, 501, 503, 2, 504, 505, 506, 507, 508, 510, 3, 511, 512, 513] (by decide +kernel) (by decide +kernel) w h).1
set_option maxRecDepth 100000 in
theorem in_wsL_law_r27 : ∀ w ∈ wsL_law_r27, w ∈ lw_tbl := fun w h => (goodIn_r wsL_law_r27 [515, 4, 516, 98, 518, 519, 520, 521, 522, 523, 524, 65, 525, 1131, 526, 527, 528, 529, 530, 1132, 532, 533, 534, 535] (by decide +kernel) (by decide +kernel) w h).1
set_option maxRecDepth 100000 in
theorem in_wsL_law_r28 : ∀ w ∈ wsL_law_r28, w ∈ lw_tbl := fun w h => (goodIn_r wsL_law_r28 [536, 537, 538, 539, 540, 541, 66, 542, 543, 544, 545, 546, 548, 549, 67, 550, 551, 552, 68, 553, 554, 555, 556, 557] (by decide +kernel) (by decide +kernel) w h).1
set_option maxRecDepth 100000 in
theorem in_wsL_law_r29 : ∀ w ∈ wsL_law_r29, w ∈ lw_tbl := fun w h => (goodIn_r wsL_law_r29 [558, 559, 560, 561, 562, 563, 564, 566, 568, 570, 572, 5, 573, 159, 574, 575, 576, 577, 579, 581, 6, 582, 585, 586] (by decide +kernel) (by decide +kernel) w h).1
set_option maxRecDepth 100000 in
theorem in_wsL_law_r30 : ∀ w ∈ wsL_law_r30, w ∈ lw_tbl := fun w h => (goodIn_r wsL_law_r30 [587, 588, 590, 592, 7, 593, 594, 595, 597, 8, 598, 599, 600, 601, 608, 610, 9, 611, 96, 612, 992, 993, 994, 995] (by decide +kernel) (by decide +kernel) w h).1
set_option maxRecDepth 100000 in
theorem in_wsL_law_r31 : ∀ w ∈ wsL_law_r31, w ∈ lw_tbl := fun w h => (goodIn_r wsL_law_r31 [716, 719, 714, 718, 715, 996, 998, 38, 999, 717, 1010, 1011, 1012, 1000, 1002, 39, 1003, 1004, 1005, 1006, 1007, 1008, 1009, 1013] (by decide +kernel) (by decide +kernel) w h).1
set_option maxRecDepth 100000 in
theorem in_wsL_law_r32 : ∀ w ∈ wsL_law_r32, w ∈ lw_tbl := fun w h => (goodIn_r wsL_law_r32 [1015, 40, 1016, 1039, 1055, 1017, 1019, 41, 1020, 1021, 1026, 1027, 1028, 1029, 1030, 1022, 1024, 42, 1025, 1031, 1033, 43, 1034, 1035] (by decide +kernel) (by decide +kernel) w h).1
set_option maxRecDepth 100000 in
theorem in_wsL_law_r33 : ∀ w ∈ wsL_law_r33, w ∈ lw_tbl := fun w h => (goodIn_r wsL_law_r33 [1037, 44, 1038, 1040, 1042, 45, 1043, 1044, 1046, 46, 1047, 1048, 1049, 1050, 1051, 1053, 47, 1054, 1056, 1058, 48, 1059, 614, 615] (by decide +kernel) (by decide +kernel) w h).1
set_option maxRecDepth 100000 in
theorem in_wsL_law_r34 : ∀ w ∈ wsL_law_r34, w ∈ lw_tbl := fun w h => (goodIn_r wsL_law_r34 [616, 617, 621, 196, 618, 619, 620, 622, 623, 624, 625, 626, 627, 628, 1060, 1061, 1062, 1063, 1067, 1064, 1065, 1066, 629, 630] (by decide +kernel) (by decide +kernel) w h).1
set_option maxRecDepth 100000 in
theorem in_wsL_law_r35 : ∀ w ∈ wsL_law_r35, w ∈ lw_tbl := fun w h => (goodIn_r wsL_law_r35 [631, 632, 637, 198, 633, 634, 635, 636, 638, 639, 640, 641, 642, 643, 644, 645, 1068, 1069, 1070, 1071, 1072, 1073, 1074, 1075] (by decide +kernel) (by decide +kernel) w h).1
set_option maxRecDepth 100000 in
theorem in_wsL_law_r36 : ∀ w ∈ wsL_law_r36, w ∈ lw_tbl := fun w h => (goodIn_r wsL_law_r36 [646, 647, 648, 649, 194, 654, 650, 651, 652, 653, 1076, 1077, 1078, 1079, 1080, 1082, 49, 1083, 655, 656, 657, 658, 659, 660] (by decide +kernel) (by decide +kernel) w h).1
set_option maxRecDepth 100000 in
theorem in_wsL_law_r37 : ∀ w ∈ wsL_law_r37, w ∈ lw_tbl := fun w h => (goodIn_r wsL_law_r37 [1084, 1085, 1086, 1087, 1092, 1093, 1088, 1090, 50, 1091, 661, 662, 663, 664, 665, 667, 10, 668, 1094, 1095, 1096, 1097, 669, 670] (by decide +kernel) (by decide +kernel) w h).1
set_option maxRecDepth 100000 in
theorem in_wsL_law_r38 : ∀ w ∈ wsL_law_r38, w ∈ lw_tbl := fun w h => (goodIn_r wsL_law_r38 [671, 672, 673, 675, 11, 676, 1098, 1099, 1100, 1101, 1102, 1104, 51, 1105, 677, 678, 679, 680, 1106, 1107, 1108, 1109, 726, 681] (by decide +kernel) (by decide +kernel) w h).1
set_option maxRecDepth 100000 in
theorem in_wsL_law_r39 : ∀ w ∈ wsL_law_r39, w ∈ lw_tbl := fun w h => (goodIn_r wsL_law_r39 [682, 683, 684, 1110, 1111, 1112, 1113, 685, 686, 687, 688, 1114, 1115, 1116, 1117, 689, 690, 691, 692, 693, 694, 695, 696, 1118] (by decide +kernel) (by decide +kernel) w h).1
set_option maxRecDepth 100000 in
theorem in_wsL_law_r40 : ∀ w ∈ wsL_law_r40, w ∈ lw_tbl := fun w h => (goodIn_r wsL_law_r40 [1119, 1120, 1121, 1122, 1124, 52, 1125, 697, 698, 699, 700, 1126, 1127, 1128, 1129] (by decide +kernel) (by decide +kernel) w h).1
set_option maxRecDepth 100000 in
theorem in_wsX50 : ∀ w ∈ wsX50, w ∈ lw_tbl := fun w h => (goodIn_r wsX50 [215, 217, 219, 221, 223, 225, 227, 229] (by decide +kernel) (by decide +kernel) w h).1
set_option maxRecDepth 100000 in
theorem in_wsX60 : ∀ w ∈ wsX60, w ∈ lw_tbl := fun w h => (goodIn_r wsX60 [727, 729, 731, 733, 735, 737, 739, 741, 743, 745, 747, 749, 751, 753, 755, 757, 759, 761, 763, 765] (by decide +kernel) (by decide +kernel) w h).1
set_option maxRecDepth 100000 in
theorem in_wsX30 : ∀ w ∈ wsX30, w ∈ lw_tbl := fun w h => (goodIn_r wsX30 [112, 114, 116, 118, 120, 122, 124, 126, 128, 130, 132, 134, 136] (by decide +kernel) (by decide +kernel) w h).1
set_option maxRecDepth 100000 in
theorem in_wsX40 : ∀ w ∈ wsX40, w ∈ lw_tbl := fun w h => (goodIn_r wsX40 [160, 162, 164, 166, 168, 170] (by decide +kernel) (by decide +kernel) w h).1
set_option maxRecDepth 100000 in
theorem in_wsX00 : ∀ w ∈ wsX00, w ∈ lw_tbl := fun w h => (goodIn_r wsX00 [181, 183] (by decide +kernel) (by decide +kernel) w h).1
set_option maxRecDepth 100000 in
theorem in_wsX20 : ∀ w ∈ wsX20, w ∈ lw_tbl := fun w h => (goodIn_r wsX20 [199, 201, 203] (by decide +kernel) (by decide +kernel) w h).1
set_option maxRecDepth 100000 in
theorem mem_app2 {a b big : List Cond} (ha : ∀ w ∈ a, w ∈ big) (hb : ∀ w ∈ b, w ∈ big) : ∀ w ∈ a ++ b, w ∈ big := fun w h => (List.mem_append.mp h).elim (ha w) (hb w)
set_option maxRecDepth 100000 in
theorem wsL_law_in : ∀ w ∈ wsL_law, w ∈ lw_tbl := mem_app2 (mem_app2 (mem_app2 (mem_app2 (mem_app2 (mem_app2 (mem_app2 (mem_app2 in_wsL_law_r1 (mem_app2 in_wsL_law_r2 (mem_app2 in_wsL_law_r3 (mem_app2 in_wsL_law_r4 (mem_app2 in_wsL_law_r5 (mem_app2 in_wsL_law_r6 (mem_app2 in_wsL_law_r7 (mem_app2 in_wsL_law_r8 (mem_app2 in_wsL_law_r9 (mem_app2 in_wsL_law_r10 (mem_app2 in_wsL_law_r11 (mem_app2 in_wsL_law_r12 (mem_app2 in_wsL_law_r13 (mem_app2 in_wsL_law_r14 (mem_app2 in_wsL_law_r15 (mem_app2 in_wsL_law_r16 (mem_app2 in_wsL_law_r17 (mem_app2 in_wsL_law_r18 (mem_app2 in_wsL_law_r19 (mem_app2 in_wsL_law_r20 (mem_app2 in_wsL_law_r21 (mem_app2 in_wsL_law_r22 (mem_app2 in_wsL_law_r23 (mem_app2 in_wsL_law_r24 (mem_app2 in_wsL_law_r25 (mem_app2 in_wsL_law_r26 (mem_app2 in_wsL_law_r27 (mem_app2 in_wsL_law_r28 (mem_app2 in_wsL_law_r29 (mem_app2 in_wsL_law_r30 (mem_app2 in_wsL_law_r31 (mem_app2 in_wsL_law_r32 (mem_app2 in_wsL_law_r33 (mem_app2 in_wsL_law_r34 (mem_app2 in_wsL_law_r35 (mem_app2 in_wsL_law_r36 (mem_app2 in_wsL_law_r37 (mem_app2 in_wsL_law_r38 (mem_app2 in_wsL_law_r39 (in_wsL_law_r40)))))))))))))))))))))))))))))))))))))))) in_wsX50) in_wsX60) in_wsX30) in_wsX40) in_wsX00) in_wsX20) (fun _ h => absurd h List.not_mem_nil)
