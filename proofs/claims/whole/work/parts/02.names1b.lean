set_option maxRecDepth 100000 in
theorem in_wsL_law_r1 : ∀ w ∈ wsL_law_r1, w ∈ lw_tbl := fun w h => (goodIn_r wsL_law_r1 [61, 62, 46, 659, 660, 51, 1088, 63, 64, 65, 66, 67, 68, 69, 70, 47, 186, 187, 188, 189, 132, 133, 49, 190] (by decide +kernel) (by decide +kernel) w h).1
set_option maxRecDepth 100000 in
theorem in_wsL_law_r2 : ∀ w ∈ wsL_law_r2, w ∈ lw_tbl := fun w h => (goodIn_r wsL_law_r2 [165, 191, 167, 50, 131, 192, 71, 72, 73, 74, 78, 80, 82, 84, 86, 89, 92, 94, 96, 98, 100, 102, 103, 75] (by decide +kernel) (by decide +kernel) w h).1
set_option maxRecDepth 100000 in
theorem in_wsL_law_r3 : ∀ w ∈ wsL_law_r3, w ∈ lw_tbl := fun w h => (goodIn_r wsL_law_r3 [76, 48, 77, 134, 135, 136, 137, 142, 143, 138, 139, 140, 141, 146, 148, 149, 150, 168, 169, 170, 171, 172, 174, 185] (by decide +kernel) (by decide +kernel) w h).1
set_option maxRecDepth 100000 in
theorem in_wsL_law_r4 : ∀ w ∈ wsL_law_r4, w ∈ lw_tbl := fun w h => (goodIn_r wsL_law_r4 [176, 661, 662, 663, 664, 665, 666, 667, 668, 669, 670, 678, 679, 680, 681, 682, 683, 208, 209, 210, 211, 218, 81, 83] (by decide +kernel) (by decide +kernel) w h).1
set_option maxRecDepth 100000 in
theorem in_wsL_law_r5 : ∀ w ∈ wsL_law_r5, w ∈ lw_tbl := fun w h => (goodIn_r wsL_law_r5 [85, 212, 213, 214, 215, 216, 217, 219, 221, 0, 222, 726, 727, 728, 729, 740, 730, 731, 732, 733, 734, 735, 736, 738] (by decide +kernel) (by decide +kernel) w h).1
set_option maxRecDepth 100000 in
theorem in_wsL_law_r6 : ∀ w ∈ wsL_law_r6, w ∈ lw_tbl := fun w h => (goodIn_r wsL_law_r6 [4, 739, 741, 743, 5, 744, 223, 224, 225, 226, 87, 745, 746, 747, 748, 749, 751, 6, 752, 753, 755, 7, 756, 757] (by decide +kernel) (by decide +kernel) w h).1
set_option maxRecDepth 100000 in
theorem in_wsL_law_r7 : ∀ w ∈ wsL_law_r7, w ∈ lw_tbl := fun w h => (goodIn_r wsL_law_r7 [759, 8, 760, 227, 228, 229, 230, 79, 231, 232, 233, 234, 235, 236, 52, 237, 238, 239, 240, 241, 242, 243, 244, 245] (by decide +kernel) (by decide +kernel) w h).1
set_option maxRecDepth 100000 in
theorem in_wsL_law_r8 : ∀ w ∈ wsL_law_r8, w ∈ lw_tbl := fun w h => (goodIn_r wsL_law_r8 [246, 247, 248, 249, 250, 251, 252, 253, 254, 255, 256, 257, 258, 259, 761, 762, 763, 764, 765, 767, 9, 768, 769, 771] (by decide +kernel) (by decide +kernel) w h).1
set_option maxRecDepth 100000 in
theorem in_wsL_law_r9 : ∀ w ∈ wsL_law_r9, w ∈ lw_tbl := fun w h => (goodIn_r wsL_law_r9 [10, 772, 773, 775, 11, 776, 777, 779, 12, 780, 781, 783, 13, 784, 785, 787, 14, 788, 260, 261, 262, 263, 91, 267] (by decide +kernel) (by decide +kernel) w h).1
set_option maxRecDepth 100000 in
theorem in_wsL_law_r10 : ∀ w ∈ wsL_law_r10, w ∈ lw_tbl := fun w h => (goodIn_r wsL_law_r10 [268, 264, 265, 266, 269, 270, 271, 272, 789, 790, 791, 792, 796, 797, 793, 794, 795, 798, 800, 15, 801, 802, 804, 16] (by decide +kernel) (by decide +kernel) w h).1
set_option maxRecDepth 100000 in
theorem in_wsL_law_r11 : ∀ w ∈ wsL_law_r11, w ∈ lw_tbl := fun w h => (goodIn_r wsL_law_r11 [805, 273, 274, 275, 276, 93, 95, 97, 99, 101, 277, 278, 279, 280, 281, 282, 283, 284, 285, 286, 287, 288, 289, 290] (by decide +kernel) (by decide +kernel) w h).1
set_option maxRecDepth 100000 in
theorem in_wsL_law_r12 : ∀ w ∈ wsL_law_r12, w ∈ lw_tbl := fun w h => (goodIn_r wsL_law_r12 [291, 292, 293, 294, 295, 296, 297, 298, 299, 53, 300, 301, 302, 303, 304, 305, 306, 307, 308, 309, 310, 311, 313, 1] (by decide +kernel) (by decide +kernel) w h).1
set_option maxRecDepth 100000 in
theorem in_wsL_law_r13 : ∀ w ∈ wsL_law_r13, w ∈ lw_tbl := fun w h => (goodIn_r wsL_law_r13 [314, 315, 316, 317, 318, 319, 806, 807, 808, 809, 810, 812, 17, 813, 814, 816, 18, 817, 818, 820, 19, 821, 822, 824] (by decide +kernel) (by decide +kernel) w h).1
set_option maxRecDepth 100000 in
theorem in_wsL_law_r14 : ∀ w ∈ wsL_law_r14, w ∈ lw_tbl := fun w h => (goodIn_r wsL_law_r14 [20, 825, 826, 828, 21, 829, 830, 832, 22, 833, 834, 836, 23, 837, 320, 321, 322, 323, 838, 839, 840, 841, 842, 843] (by decide +kernel) (by decide +kernel) w h).1
set_option maxRecDepth 100000 in
theorem in_wsL_law_r15 : ∀ w ∈ wsL_law_r15, w ∈ lw_tbl := fun w h => (goodIn_r wsL_law_r15 [844, 324, 325, 326, 327, 328, 329, 330, 331, 332, 333, 334, 335, 845, 846, 847, 848, 336, 337, 338, 339, 340, 341, 342] (by decide +kernel) (by decide +kernel) w h).1
set_option maxRecDepth 100000 in
theorem in_wsL_law_r16 : ∀ w ∈ wsL_law_r16, w ∈ lw_tbl := fun w h => (goodIn_r wsL_law_r16 [343, 849, 850, 851, 852, 853, 855, 24, 856, 344, 345, 346, 347, 857, 858, 859, 860, 348, 349, 350, 351, 358, 352, 353] (by decide +kernel) (by decide +kernel) w h).1
set_option maxRecDepth 100000 in
theorem in_wsL_law_r17 : ∀ w ∈ wsL_law_r17, w ∈ lw_tbl := fun w h => (goodIn_r wsL_law_r17 [354, 355, 356, 357, 861, 862, 863, 864, 865, 359, 360, 361, 362, 363, 364, 365, 366, 367, 368, 369, 370, 371, 372, 373] (by decide +kernel) (by decide +kernel) w h).1
set_option maxRecDepth 100000 in
theorem in_wsL_law_r18 : ∀ w ∈ wsL_law_r18, w ∈ lw_tbl := fun w h => (goodIn_r wsL_law_r18 [374, 375, 376, 377, 379, 380, 54, 381, 382, 383, 384, 378, 385, 866, 867, 868, 869, 870, 871, 873, 25, 874, 875, 877] (by decide +kernel) (by decide +kernel) w h).1
set_option maxRecDepth 100000 in
theorem in_wsL_law_r19 : ∀ w ∈ wsL_law_r19, w ∈ lw_tbl := fun w h => (goodIn_r wsL_law_r19 [26, 878, 879, 880, 881, 882, 883, 884, 386, 387, 388, 389, 390, 391, 392, 393, 394, 396, 395, 55, 885, 886, 887, 888] (by decide +kernel) (by decide +kernel) w h).1
set_option maxRecDepth 100000 in
theorem in_wsL_law_r20 : ∀ w ∈ wsL_law_r20, w ∈ lw_tbl := fun w h => (goodIn_r wsL_law_r20 [889, 891, 27, 892, 397, 398, 399, 400, 893, 894, 895, 896, 897, 899, 28, 900, 401, 402, 403, 404, 407, 405, 406, 901] (by decide +kernel) (by decide +kernel) w h).1
set_option maxRecDepth 100000 in
theorem in_wsL_law_r21 : ∀ w ∈ wsL_law_r21, w ∈ lw_tbl := fun w h => (goodIn_r wsL_law_r21 [902, 903, 904, 905, 408, 409, 410, 411, 412, 906, 907, 908, 909, 413, 414, 415, 416, 910, 911, 912, 913, 417, 418, 419] (by decide +kernel) (by decide +kernel) w h).1
set_option maxRecDepth 100000 in
theorem in_wsL_law_r22 : ∀ w ∈ wsL_law_r22, w ∈ lw_tbl := fun w h => (goodIn_r wsL_law_r22 [420, 914, 915, 916, 917, 918, 920, 29, 921, 421, 422, 423, 424, 922, 923, 924, 925, 425, 426, 427, 428, 926, 927, 928] (by decide +kernel) (by decide +kernel) w h).1
set_option maxRecDepth 100000 in
theorem in_wsL_law_r23 : ∀ w ∈ wsL_law_r23, w ∈ lw_tbl := fun w h => (goodIn_r wsL_law_r23 [929, 429, 430, 431, 432, 930, 931, 932, 933, 433, 434, 435, 436, 934, 935, 936, 937, 437, 438, 439, 440, 441, 442, 443] (by decide +kernel) (by decide +kernel) w h).1
set_option maxRecDepth 100000 in
theorem in_wsL_law_r24 : ∀ w ∈ wsL_law_r24, w ∈ lw_tbl := fun w h => (goodIn_r wsL_law_r24 [444, 938, 939, 940, 941, 445, 446, 447, 448, 144, 449, 450, 451, 452, 942, 943, 944, 945, 671, 453, 454, 455, 456, 457] (by decide +kernel) (by decide +kernel) w h).1
set_option maxRecDepth 100000 in
theorem in_wsL_law_r25 : ∀ w ∈ wsL_law_r25, w ∈ lw_tbl := fun w h => (goodIn_r wsL_law_r25 [458, 459, 460, 946, 947, 948, 949, 461, 462, 463, 464, 465, 466, 56, 467, 145, 147, 468, 469, 470, 471, 472, 476, 473] (by decide +kernel) (by decide +kernel) w h).1
set_option maxRecDepth 100000 in
theorem in_wsL_law_r26 : ∀ w ∈ wsL_law_r26, w ∈ lw_tbl := fun w h => (goodIn_r wsL_law_r26 [474, 475, 477, 478, 479, 90, 481, 482, 483, 484, 485, 486, 487, 57, 488, 1089, 489, 490, 491, 492, 493, 1090, 495, 496] (by decide +kernel) (by decide +kernel) w h).1
set_option maxRecDepth 100000 in
theorem in_wsL_law_r27 : ∀ w ∈ wsL_law_r27, w ∈ lw_tbl := fun w h => (goodIn_r wsL_law_r27 [497, 498, 499, 500, 501, 502, 503, 504, 58, 505, 506, 507, 508, 509, 511, 512, 59, 513, 514, 515, 60, 516, 517, 518] (by decide +kernel) (by decide +kernel) w h).1
set_option maxRecDepth 100000 in
theorem in_wsL_law_r28 : ∀ w ∈ wsL_law_r28, w ∈ lw_tbl := fun w h => (goodIn_r wsL_law_r28 [519, 520, 521, 522, 523, 524, 525, 526, 527, 529, 531, 533, 534, 535, 151, 536, 537, 538, 539, 541, 542, 543, 546, 547] (by decide +kernel) (by decide +kernel) w h).1
set_option maxRecDepth 100000 in
theorem in_wsL_law_r29 : ∀ w ∈ wsL_law_r29, w ∈ lw_tbl := fun w h => (goodIn_r wsL_law_r29 [548, 549, 551, 552, 553, 554, 555, 556, 557, 558, 559, 560, 567, 568, 569, 88, 570, 950, 951, 952, 953, 674, 677, 672] (by decide +kernel) (by decide +kernel) w h).1
set_option maxRecDepth 100000 in
theorem in_wsL_law_r30 : ∀ w ∈ wsL_law_r30, w ∈ lw_tbl := fun w h => (goodIn_r wsL_law_r30 [676, 673, 954, 956, 30, 957, 675, 968, 969, 970, 958, 960, 31, 961, 962, 963, 964, 965, 966, 967, 971, 973, 32, 974] (by decide +kernel) (by decide +kernel) w h).1
set_option maxRecDepth 100000 in
theorem in_wsL_law_r31 : ∀ w ∈ wsL_law_r31, w ∈ lw_tbl := fun w h => (goodIn_r wsL_law_r31 [997, 1013, 975, 977, 33, 978, 979, 984, 985, 986, 987, 988, 980, 982, 34, 983, 989, 991, 35, 992, 993, 995, 36, 996] (by decide +kernel) (by decide +kernel) w h).1
set_option maxRecDepth 100000 in
theorem in_wsL_law_r32 : ∀ w ∈ wsL_law_r32, w ∈ lw_tbl := fun w h => (goodIn_r wsL_law_r32 [998, 1000, 37, 1001, 1002, 1004, 38, 1005, 1006, 1007, 1008, 1009, 1011, 39, 1012, 1014, 1016, 40, 1017, 572, 573, 574, 575, 579] (by decide +kernel) (by decide +kernel) w h).1
set_option maxRecDepth 100000 in
theorem in_wsL_law_r33 : ∀ w ∈ wsL_law_r33, w ∈ lw_tbl := fun w h => (goodIn_r wsL_law_r33 [175, 576, 577, 578, 580, 581, 582, 583, 584, 585, 586, 1018, 1019, 1020, 1021, 1025, 1022, 1023, 1024, 587, 588, 589, 590, 595] (by decide +kernel) (by decide +kernel) w h).1
set_option maxRecDepth 100000 in
theorem in_wsL_law_r34 : ∀ w ∈ wsL_law_r34, w ∈ lw_tbl := fun w h => (goodIn_r wsL_law_r34 [177, 591, 592, 593, 594, 596, 597, 598, 599, 600, 601, 602, 603, 1026, 1027, 1028, 1029, 1030, 1031, 1032, 1033, 604, 605, 606] (by decide +kernel) (by decide +kernel) w h).1
set_option maxRecDepth 100000 in
theorem in_wsL_law_r35 : ∀ w ∈ wsL_law_r35, w ∈ lw_tbl := fun w h => (goodIn_r wsL_law_r35 [607, 173, 612, 608, 609, 610, 611, 1034, 1035, 1036, 1037, 1038, 1040, 41, 1041, 613, 614, 615, 616, 617, 618, 1042, 1043, 1044] (by decide +kernel) (by decide +kernel) w h).1
set_option maxRecDepth 100000 in
theorem in_wsL_law_r36 : ∀ w ∈ wsL_law_r36, w ∈ lw_tbl := fun w h => (goodIn_r wsL_law_r36 [1045, 1050, 1051, 1046, 1048, 42, 1049, 619, 620, 621, 622, 623, 625, 2, 626, 1052, 1053, 1054, 1055, 627, 628, 629, 630, 631] (by decide +kernel) (by decide +kernel) w h).1
set_option maxRecDepth 100000 in
theorem in_wsL_law_r37 : ∀ w ∈ wsL_law_r37, w ∈ lw_tbl := fun w h => (goodIn_r wsL_law_r37 [633, 3, 634, 1056, 1057, 1058, 1059, 1060, 1062, 43, 1063, 635, 636, 637, 638, 1064, 1065, 1066, 1067, 684, 639, 640, 641, 642] (by decide +kernel) (by decide +kernel) w h).1
set_option maxRecDepth 100000 in
theorem in_wsL_law_r38 : ∀ w ∈ wsL_law_r38, w ∈ lw_tbl := fun w h => (goodIn_r wsL_law_r38 [1068, 1069, 1070, 1071, 643, 644, 645, 646, 1072, 1073, 1074, 1075, 647, 648, 649, 650, 651, 652, 653, 654, 1076, 1077, 1078, 1079] (by decide +kernel) (by decide +kernel) w h).1
set_option maxRecDepth 100000 in
theorem in_wsL_law_r39 : ∀ w ∈ wsL_law_r39, w ∈ lw_tbl := fun w h => (goodIn_r wsL_law_r39 [1080, 1082, 44, 1083, 655, 656, 657, 658, 1084, 1085, 1086, 1087] (by decide +kernel) (by decide +kernel) w h).1
set_option maxRecDepth 100000 in
theorem in_wsX50 : ∀ w ∈ wsX50, w ∈ lw_tbl := fun w h => (goodIn_r wsX50 [193, 195, 197, 199, 201, 203, 205] (by decide +kernel) (by decide +kernel) w h).1
set_option maxRecDepth 100000 in
theorem in_wsX60 : ∀ w ∈ wsX60, w ∈ lw_tbl := fun w h => (goodIn_r wsX60 [685, 687, 689, 691, 693, 695, 697, 699, 701, 703, 705, 707, 709, 711, 713, 715, 717, 719, 721, 723] (by decide +kernel) (by decide +kernel) w h).1
set_option maxRecDepth 100000 in
theorem in_wsX30 : ∀ w ∈ wsX30, w ∈ lw_tbl := fun w h => (goodIn_r wsX30 [104, 106, 108, 110, 112, 114, 116, 118, 120, 122, 124, 126, 128] (by decide +kernel) (by decide +kernel) w h).1
set_option maxRecDepth 100000 in
theorem in_wsX40 : ∀ w ∈ wsX40, w ∈ lw_tbl := fun w h => (goodIn_r wsX40 [152, 154, 156, 158, 160, 162] (by decide +kernel) (by decide +kernel) w h).1
set_option maxRecDepth 100000 in
theorem in_wsX20 : ∀ w ∈ wsX20, w ∈ lw_tbl := fun w h => (goodIn_r wsX20 [178, 180, 182] (by decide +kernel) (by decide +kernel) w h).1
set_option maxRecDepth 100000 in
theorem mem_app2 {a b big : List Cond} (ha : ∀ w ∈ a, w ∈ big) (hb : ∀ w ∈ b, w ∈ big) : ∀ w ∈ a ++ b, w ∈ big := fun w h => (List.mem_append.mp h).elim (ha w) (hb w)
set_option maxRecDepth 100000 in
theorem wsL_law_in : ∀ w ∈ wsL_law, w ∈ lw_tbl := mem_app2 (mem_app2 (mem_app2 (mem_app2 (mem_app2 (mem_app2 (mem_app2 in_wsL_law_r1 (mem_app2 in_wsL_law_r2 (mem_app2 in_wsL_law_r3 (mem_app2 in_wsL_law_r4 (mem_app2 in_wsL_law_r5 (mem_app2 in_wsL_law_r6 (mem_app2 in_wsL_law_r7 (mem_app2 in_wsL_law_r8 (mem_app2 in_wsL_law_r9 (mem_app2 in_wsL_law_r10 (mem_app2 in_wsL_law_r11 (mem_app2 in_wsL_law_r12 (mem_app2 in_wsL_law_r13 (mem_app2 in_wsL_law_r14 (mem_app2 in_wsL_law_r15 (mem_app2 in_wsL_law_r16 (mem_app2 in_wsL_law_r17 (mem_app2 in_wsL_law_r18 (mem_app2 in_wsL_law_r19 (mem_app2 in_wsL_law_r20 (mem_app2 in_wsL_law_r21 (mem_app2 in_wsL_law_r22 (mem_app2 in_wsL_law_r23 (mem_app2 in_wsL_law_r24 (mem_app2 in_wsL_law_r25 (mem_app2 in_wsL_law_r26 (mem_app2 in_wsL_law_r27 (mem_app2 in_wsL_law_r28 (mem_app2 in_wsL_law_r29 (mem_app2 in_wsL_law_r30 (mem_app2 in_wsL_law_r31 (mem_app2 in_wsL_law_r32 (mem_app2 in_wsL_law_r33 (mem_app2 in_wsL_law_r34 (mem_app2 in_wsL_law_r35 (mem_app2 in_wsL_law_r36 (mem_app2 in_wsL_law_r37 (mem_app2 in_wsL_law_r38 (in_wsL_law_r39))))))))))))))))))))))))))))))))))))))) in_wsX50) in_wsX60) in_wsX30) in_wsX40) in_wsX20) (fun _ h => absurd h List.not_mem_nil)
