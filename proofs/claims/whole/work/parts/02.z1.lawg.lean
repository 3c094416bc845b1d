set_option maxRecDepth 20000 in
theorem ggL_law_X5_init : GoodIn wsL_law wsX5_init := goodIn_r _ [9, 10, 11, 12, 13, 14, 15, 16, 17, 18, 19, 20, 21, 22, 23, 24, 25, 26, 27, 28, 29, 30, 31, 32, 33, 34, 35, 36, 37, 38, 39, 40, 41, 42, 43, 44, 45, 46, 47, 48, 49, 50, 51, 52, 53, 54, 55, 56, 57, 58, 59, 60, 61, 62, 63, 64, 65, 66, 67, 68, 69, 70, 71, 72, 73, 74, 75, 76, 77, 78, 79, 80, 81, 82, 979, 980, 981, 982, 983, 984, 985, 986, 987, 988, 989, 990, 991, 951, 952, 953, 954, 955, 956, 957, 958, 992, 993, 994, 995, 996, 997, 998, 999, 1000, 1001, 1002] (by decide +kernel) (by decide +kernel)
set_option maxRecDepth 20000 in
theorem gL_law_X5_init : GoodIn wsL_law (wsX5_init) := ggL_law_X5_init
set_option maxRecDepth 20000 in
theorem ggL_law_X6_init : GoodIn wsL_law wsX6_init := goodIn_r _ [85, 86, 11, 12, 32, 87, 88, 89, 90, 91, 92, 93, 94, 81, 95, 96, 97, 98, 959, 960, 961, 962, 963, 964, 965, 966, 967, 968, 969, 970, 971, 972, 973, 974, 975, 976, 977, 978] (by decide +kernel) (by decide +kernel)
set_option maxRecDepth 20000 in
theorem gL_law_X6_init : GoodIn wsL_law (wsX6_init) := ggL_law_X6_init
set_option maxRecDepth 20000 in
theorem ggL_law_X5_lay : GoodIn wsL_law wsX5_lay := goodIn_r _ [102, 103, 16, 104, 105, 106, 107, 108, 2, 109, 110, 111, 112, 113, 114, 115, 116, 33, 951, 952, 953, 954, 955, 956, 957, 958, 979, 980, 981, 982, 983, 984, 985, 986, 987, 988, 989, 990, 991] (by decide +kernel) (by decide +kernel)
set_option maxRecDepth 20000 in
theorem gL_law_X5_lay : GoodIn wsL_law (wsV RL 13 RX5 yX5_lay wsX5_lay) := goodIn_app (goodIn_of _ (by decide +kernel)) ggL_law_X5_lay
set_option maxRecDepth 20000 in
theorem ggL_law_X6_lay : GoodIn wsL_law wsX6_lay := goodIn_r _ [120, 121, 122, 123, 5, 124, 125, 126, 127, 128, 129, 130, 131, 87, 132, 133, 134, 135, 88, 959, 960, 961, 962, 963, 964, 965, 966, 967, 968, 969, 970, 971, 972, 973, 974, 975, 976, 977, 978] (by decide +kernel) (by decide +kernel)
set_option maxRecDepth 20000 in
theorem gL_law_X6_lay : GoodIn wsL_law (wsV RL 17 RX6 yX6_lay wsX6_lay) := goodIn_app (goodIn_of _ (by decide +kernel)) ggL_law_X6_lay
set_option maxRecDepth 20000 in
theorem ggL_law_X5_place : GoodIn wsL_law wsX5_place := goodIn_r _ [139, 103, 16, 104, 105, 106, 140, 107, 108, 2, 109, 113, 114, 115, 116, 33, 951, 952, 953, 954, 955, 956, 957, 958, 979, 980, 981, 982, 983, 984, 985, 986, 987, 988, 989, 990, 991] (by decide +kernel) (by decide +kernel)
set_option maxRecDepth 20000 in
theorem gL_law_X5_place : GoodIn wsL_law (wsV RL 18 RX5 yX5_place wsX5_place) := goodIn_app (goodIn_of _ (by decide +kernel)) ggL_law_X5_place
set_option maxRecDepth 20000 in
theorem ggL_law_X6_place : GoodIn wsL_law wsX6_place := goodIn_r _ [144, 121, 122, 123, 5, 124, 125, 126, 127, 132, 133, 134, 135, 88, 145, 146, 147, 148, 87, 149, 150, 151, 152, 153, 154, 155, 156, 959, 960, 961, 962, 963, 964, 965, 966, 967, 968, 969, 970, 971, 972, 973, 974, 975, 976, 977, 978] (by decide +kernel) (by decide +kernel)
set_option maxRecDepth 20000 in
theorem gL_law_X6_place : GoodIn wsL_law (wsV RL 22 RX6 yX6_place wsX6_place) := goodIn_app (goodIn_of _ (by decide +kernel)) ggL_law_X6_place
set_option maxRecDepth 20000 in
theorem ggL_law_X5_now : GoodIn wsL_law wsX5_now := goodIn_r _ [160, 16, 161, 103, 162, 163, 164, 15, 165, 43, 46, 44, 166, 167, 168, 169, 170, 171, 172, 173, 174, 175, 176, 177, 41, 45, 178, 179, 180, 181, 182, 183, 184, 185, 186, 187, 188, 189, 190, 191, 47, 113, 114, 115, 2, 116, 33, 951, 952, 953, 954, 955, 956, 957, 958, 979, 980, 981, 982, 983, 984, 985, 986, 987, 988, 989, 990, 991] (by decide +kernel) (by decide +kernel)
set_option maxRecDepth 20000 in
theorem gL_law_X5_now : GoodIn wsL_law (wsV RL 23 RX5 yX5_now wsX5_now) := goodIn_app (goodIn_of _ (by decide +kernel)) ggL_law_X5_now
set_option maxRecDepth 20000 in
theorem ggL_law_X6_now : GoodIn wsL_law wsX6_now := goodIn_r _ [195, 87, 121, 196, 197, 198, 5, 199, 200, 201, 202, 203, 153, 154, 155, 156, 204, 205, 206, 207, 208, 209, 210, 211, 212, 213, 214, 215, 145, 146, 147, 148, 216, 217, 218, 219, 132, 133, 134, 135, 88, 959, 960, 961, 962, 963, 964, 965, 966, 967, 968, 969, 970, 971, 972, 973, 974, 975, 976, 977, 978] (by decide +kernel) (by decide +kernel)
set_option maxRecDepth 20000 in
theorem gL_law_X6_now : GoodIn wsL_law (wsV RL 27 RX6 yX6_now wsX6_now) := goodIn_app (goodIn_of _ (by decide +kernel)) ggL_law_X6_now
set_option maxRecDepth 20000 in
theorem ggL_law_X5_guest : GoodIn wsL_law wsX5_guest := goodIn_r _ [223, 103, 16, 224, 225, 140, 226, 227, 228, 2, 229, 107, 108, 109, 113, 114, 115, 116, 33, 230, 231, 232, 15, 233, 43, 44, 45, 46, 47, 48, 42, 951, 952, 953, 954, 955, 956, 957, 958, 979, 980, 981, 982, 983, 984, 985, 986, 987, 988, 989, 990, 991] (by decide +kernel) (by decide +kernel)
set_option maxRecDepth 20000 in
theorem gL_law_X5_guest : GoodIn wsL_law (wsV RL 28 RX5 yX5_guest wsX5_guest) := goodIn_app (goodIn_of _ (by decide +kernel)) ggL_law_X5_guest
set_option maxRecDepth 20000 in
theorem ggL_law_X6_guest : GoodIn wsL_law wsX6_guest := goodIn_r _ [237, 121, 87, 238, 239, 240, 241, 5, 242, 125, 126, 127, 122, 123, 124, 132, 133, 134, 135, 88, 149, 150, 151, 152, 153, 154, 155, 156, 243, 244, 245, 246, 247, 248, 249, 250, 959, 960, 961, 962, 963, 964, 965, 966, 967, 968, 969, 970, 971, 972, 973, 974, 975, 976, 977, 978] (by decide +kernel) (by decide +kernel)
set_option maxRecDepth 20000 in
theorem gL_law_X6_guest : GoodIn wsL_law (wsV RL 31 RX6 yX6_guest wsX6_guest) := goodIn_app (goodIn_of _ (by decide +kernel)) ggL_law_X6_guest
set_option maxRecDepth 20000 in
theorem ggL_law_X5_of : GoodIn wsL_law wsX5_of := goodIn_r _ [254, 16, 103, 255, 256, 257, 258, 259, 260, 261, 262, 15, 263, 43, 113, 114, 115, 2, 116, 33, 264, 265, 266, 267, 45, 44, 39, 40, 41, 268, 269, 270, 271, 42, 272, 273, 274, 275, 276, 277, 278, 279, 280, 281, 282, 283, 284, 285, 286, 287, 288, 289, 168, 290, 291, 292, 293, 294, 295, 296, 297, 298, 299, 300, 301, 302, 167, 169, 303, 951, 952, 953, 954, 955, 956, 957, 958, 979, 980, 981, 982, 983, 984, 985, 986, 987, 988, 989, 990, 991] (by decide +kernel) (by decide +kernel)
set_option maxRecDepth 20000 in
theorem gL_law_X5_of : GoodIn wsL_law (wsV RL 32 RX5 yX5_of wsX5_of) := goodIn_app (goodIn_of _ (by decide +kernel)) ggL_law_X5_of
set_option maxRecDepth 20000 in
theorem ggL_law_X6_of : GoodIn wsL_law wsX6_of := goodIn_r _ [307, 121, 308, 309, 310, 5, 311, 87, 125, 126, 127, 132, 133, 134, 135, 88, 153, 154, 155, 156, 312, 313, 314, 315, 145, 146, 147, 148, 316, 317, 318, 319, 320, 321, 322, 323, 149, 150, 151, 152, 324, 325, 326, 327, 328, 329, 330, 331, 204, 205, 206, 207, 332, 333, 334, 335, 959, 960, 961, 962, 963, 964, 965, 966, 967, 968, 969, 970, 971, 972, 973, 974, 975, 976, 977, 978] (by decide +kernel) (by decide +kernel)
set_option maxRecDepth 20000 in
theorem gL_law_X6_of : GoodIn wsL_law (wsV RL 35 RX6 yX6_of wsX6_of) := goodIn_app (goodIn_of _ (by decide +kernel)) ggL_law_X6_of
set_option maxRecDepth 20000 in
theorem ggL_law_X5_set : GoodIn wsL_law wsX5_set := goodIn_r _ [339, 16, 103, 257, 258, 259, 260, 261, 262, 15, 263, 43, 113, 114, 115, 2, 116, 33, 110, 111, 112, 951, 952, 953, 954, 955, 956, 957, 958, 979, 980, 981, 982, 983, 984, 985, 986, 987, 988, 989, 990, 991] (by decide +kernel) (by decide +kernel)
set_option maxRecDepth 20000 in
theorem gL_law_X5_set : GoodIn wsL_law (wsV RL 36 RX5 yX5_set wsX5_set) := goodIn_app (goodIn_of _ (by decide +kernel)) ggL_law_X5_set
set_option maxRecDepth 20000 in
theorem ggL_law_X6_set : GoodIn wsL_law wsX6_set := goodIn_r _ [343, 121, 308, 309, 310, 5, 311, 87, 125, 126, 127, 344, 345, 346, 128, 129, 130, 131, 132, 133, 134, 135, 88, 959, 960, 961, 962, 963, 964, 965, 966, 967, 968, 969, 970, 971, 972, 973, 974, 975, 976, 977, 978] (by decide +kernel) (by decide +kernel)
set_option maxRecDepth 20000 in
theorem gL_law_X6_set : GoodIn wsL_law (wsV RL 39 RX6 yX6_set wsX6_set) := goodIn_app (goodIn_of _ (by decide +kernel)) ggL_law_X6_set
set_option maxRecDepth 20000 in
theorem ggL_law_X5_seat : GoodIn wsL_law wsX5_seat := goodIn_r _ [350, 16, 103, 226, 256, 260, 261, 262, 15, 263, 43, 107, 108, 2, 109, 113, 114, 115, 116, 33, 351, 352, 353, 354, 42, 355, 356, 357, 358, 45, 951, 952, 953, 954, 955, 956, 957, 958, 979, 980, 981, 982, 983, 984, 985, 986, 987, 988, 989, 990, 991] (by decide +kernel) (by decide +kernel)
set_option maxRecDepth 20000 in
theorem gL_law_X5_seat : GoodIn wsL_law (wsV RL 40 RX5 yX5_seat wsX5_seat) := goodIn_app (goodIn_of _ (by decide +kernel)) ggL_law_X5_seat
set_option maxRecDepth 20000 in
theorem ggL_law_X6_seat : GoodIn wsL_law wsX6_seat := goodIn_r _ [362, 121, 239, 308, 309, 310, 5, 311, 87, 125, 126, 127, 122, 123, 124, 132, 133, 134, 135, 88, 149, 150, 151, 152, 153, 154, 155, 156, 128, 129, 130, 131, 959, 960, 961, 962, 963, 964, 965, 966, 967, 968, 969, 970, 971, 972, 973, 974, 975, 976, 977, 978] (by decide +kernel) (by decide +kernel)
set_option maxRecDepth 20000 in
theorem gL_law_X6_seat : GoodIn wsL_law (wsV RL 43 RX6 yX6_seat wsX6_seat) := goodIn_app (goodIn_of _ (by decide +kernel)) ggL_law_X6_seat
set_option maxRecDepth 20000 in
theorem ggL_law_X5_swap : GoodIn wsL_law wsX5_swap := goodIn_r _ [366, 16, 103, 260, 261, 262, 15, 263, 43, 113, 114, 115, 2, 116, 33, 367, 368, 369, 370, 45, 42, 951, 952, 953, 954, 955, 956, 957, 958, 979, 980, 981, 982, 983, 984, 985, 986, 987, 988, 989, 990, 991] (by decide +kernel) (by decide +kernel)
set_option maxRecDepth 20000 in
theorem gL_law_X5_swap : GoodIn wsL_law (wsV RL 44 RX5 yX5_swap wsX5_swap) := goodIn_app (goodIn_of _ (by decide +kernel)) ggL_law_X5_swap
set_option maxRecDepth 20000 in
theorem ggL_law_X6_swap : GoodIn wsL_law wsX6_swap := goodIn_r _ [374, 121, 308, 309, 310, 5, 311, 87, 125, 126, 127, 132, 133, 134, 135, 88, 375, 376, 377, 378, 153, 154, 155, 156, 247, 248, 249, 250, 959, 960, 961, 962, 963, 964, 965, 966, 967, 968, 969, 970, 971, 972, 973, 974, 975, 976, 977, 978] (by decide +kernel) (by decide +kernel)
set_option maxRecDepth 20000 in
theorem gL_law_X6_swap : GoodIn wsL_law (wsV RL 47 RX6 yX6_swap wsX6_swap) := goodIn_app (goodIn_of _ (by decide +kernel)) ggL_law_X6_swap
set_option maxRecDepth 20000 in
theorem ggL_law_X5_turn : GoodIn wsL_law wsX5_turn := goodIn_r _ [382, 16, 103, 255, 260, 261, 262, 15, 263, 43, 227, 228, 2, 229, 113, 114, 115, 116, 33, 951, 952, 953, 954, 955, 956, 957, 958, 979, 980, 981, 982, 983, 984, 985, 986, 987, 988, 989, 990, 991] (by decide +kernel) (by decide +kernel)
set_option maxRecDepth 20000 in
theorem gL_law_X5_turn : GoodIn wsL_law (wsV RL 48 RX5 yX5_turn wsX5_turn) := goodIn_app (goodIn_of _ (by decide +kernel)) ggL_law_X5_turn
set_option maxRecDepth 20000 in
theorem ggL_law_X6_turn : GoodIn wsL_law wsX6_turn := goodIn_r _ [386, 121, 308, 309, 310, 5, 311, 87, 125, 126, 127, 240, 241, 242, 128, 129, 130, 131, 132, 133, 134, 135, 88, 959, 960, 961, 962, 963, 964, 965, 966, 967, 968, 969, 970, 971, 972, 973, 974, 975, 976, 977, 978] (by decide +kernel) (by decide +kernel)
set_option maxRecDepth 20000 in
theorem gL_law_X6_turn : GoodIn wsL_law (wsV RL 51 RX6 yX6_turn wsX6_turn) := goodIn_app (goodIn_of _ (by decide +kernel)) ggL_law_X6_turn
set_option maxRecDepth 20000 in
theorem ggL_law_X5_as : GoodIn wsL_law wsX5_as := goodIn_r _ [390, 16, 103, 255, 391, 257, 260, 261, 262, 15, 263, 43, 227, 228, 2, 229, 113, 114, 115, 116, 33, 392, 393, 168, 394, 395, 396, 397, 951, 952, 953, 954, 955, 956, 957, 958, 979, 980, 981, 982, 983, 984, 985, 986, 987, 988, 989, 990, 991] (by decide +kernel) (by decide +kernel)
set_option maxRecDepth 20000 in
theorem gL_law_X5_as : GoodIn wsL_law (wsV RL 52 RX5 yX5_as wsX5_as) := goodIn_app (goodIn_of _ (by decide +kernel)) ggL_law_X5_as
set_option maxRecDepth 20000 in
theorem ggL_law_X6_as : GoodIn wsL_law wsX6_as := goodIn_r _ [401, 121, 402, 308, 309, 310, 5, 311, 87, 125, 126, 127, 240, 241, 242, 132, 133, 134, 135, 88, 153, 154, 155, 156, 959, 960, 961, 962, 963, 964, 965, 966, 967, 968, 969, 970, 971, 972, 973, 974, 975, 976, 977, 978] (by decide +kernel) (by decide +kernel)
set_option maxRecDepth 20000 in
theorem gL_law_X6_as : GoodIn wsL_law (wsV RL 55 RX6 yX6_as wsX6_as) := goodIn_app (goodIn_of _ (by decide +kernel)) ggL_law_X6_as
set_option maxRecDepth 20000 in
theorem ggL_law_X5_courses : GoodIn wsL_law wsX5_courses := goodIn_r _ [406, 103, 16, 161, 407, 226, 110, 111, 2, 112, 113, 114, 115, 116, 33, 408, 409, 410, 15, 411, 412, 413, 414, 415, 43, 49, 50, 416, 265, 266, 267, 45, 44, 39, 40, 41, 268, 269, 270, 271, 42, 272, 273, 274, 275, 276, 277, 278, 279, 280, 281, 282, 283, 284, 285, 286, 287, 288, 289, 168, 290, 417, 292, 293, 294, 295, 296, 297, 298, 299, 300, 301, 418, 419, 420, 421, 46, 422, 423, 424, 425, 426, 427, 428, 47, 48, 38, 429, 171, 172, 173, 174, 175, 176, 177, 178, 179, 180, 430, 163, 164, 165, 166, 167, 169, 162, 951, 952, 953, 954, 955, 956, 957, 958, 979, 980, 981, 982, 983, 984, 985, 986, 987, 988, 989, 990, 991] (by decide +kernel) (by decide +kernel)
set_option maxRecDepth 20000 in
theorem gL_law_X5_courses : GoodIn wsL_law (wsV RL 56 RX5 yX5_courses wsX5_courses) := goodIn_app (goodIn_of _ (by decide +kernel)) ggL_law_X5_courses
set_option maxRecDepth 20000 in
theorem ggL_law_X6_courses : GoodIn wsL_law wsX6_courses := goodIn_r _ [434, 121, 87, 435, 239, 125, 126, 5, 127, 132, 133, 134, 135, 88, 436, 437, 438, 439, 440, 441, 442, 443, 89, 208, 209, 210, 211, 212, 213, 214, 215, 153, 154, 155, 156, 145, 146, 147, 148, 312, 313, 314, 315, 316, 317, 318, 319, 320, 321, 322, 323, 149, 150, 151, 152, 324, 325, 326, 327, 328, 329, 330, 331, 444, 445, 446, 247, 248, 249, 250, 196, 197, 198, 199, 200, 201, 202, 203, 204, 205, 206, 207, 332, 333, 334, 335, 447, 448, 449, 959, 960, 961, 962, 963, 964, 965, 966, 967, 968, 969, 970, 971, 972, 973, 974, 975, 976, 977, 978] (by decide +kernel) (by decide +kernel)
set_option maxRecDepth 20000 in
theorem gL_law_X6_courses : GoodIn wsL_law (wsV RL 59 RX6 yX6_courses wsX6_courses) := goodIn_app (goodIn_of _ (by decide +kernel)) ggL_law_X6_courses
set_option maxRecDepth 20000 in
theorem ggL_law_X5_on : GoodIn wsL_law wsX5_on := goodIn_r _ [453, 16, 103, 17, 257, 258, 259, 260, 261, 262, 15, 263, 43, 110, 111, 2, 112, 113, 114, 115, 116, 33, 454, 455, 456, 457, 38, 39, 458, 459, 460, 461, 40, 41, 42, 44, 45, 46, 47, 48, 408, 409, 410, 411, 412, 413, 414, 415, 49, 50, 416, 265, 266, 267, 268, 269, 270, 271, 272, 273, 274, 275, 276, 277, 278, 279, 280, 281, 282, 283, 284, 285, 286, 287, 288, 289, 168, 290, 417, 292, 293, 294, 295, 296, 297, 298, 299, 300, 301, 418, 419, 420, 421, 422, 423, 424, 425, 426, 427, 428, 429, 171, 172, 173, 174, 175, 176, 177, 178, 179, 180, 430, 163, 164, 165, 166, 167, 169, 951, 952, 953, 954, 955, 956, 957, 958, 979, 980, 981, 982, 983, 984, 985, 986, 987, 988, 989, 990, 991] (by decide +kernel) (by decide +kernel)
set_option maxRecDepth 20000 in
theorem gL_law_X5_on : GoodIn wsL_law (wsV RL 60 RX5 yX5_on wsX5_on) := goodIn_app (goodIn_of _ (by decide +kernel)) ggL_law_X5_on
set_option maxRecDepth 20000 in
theorem ggL_law_X6_on : GoodIn wsL_law wsX6_on := goodIn_r _ [465, 121, 90, 308, 309, 310, 5, 311, 87, 125, 126, 127, 132, 133, 134, 135, 88, 466, 467, 468, 469, 436, 437, 438, 439, 440, 441, 442, 443, 89, 208, 209, 210, 211, 212, 213, 214, 215, 153, 154, 155, 156, 145, 146, 147, 148, 312, 313, 314, 315, 316, 317, 318, 319, 320, 321, 322, 323, 149, 150, 151, 152, 324, 325, 326, 327, 328, 329, 330, 331, 444, 445, 446, 247, 248, 249, 250, 196, 197, 198, 199, 200, 201, 202, 203, 204, 205, 206, 207, 332, 333, 334, 335, 447, 448, 449, 959, 960, 961, 962, 963, 964, 965, 966, 967, 968, 969, 970, 971, 972, 973, 974, 975, 976, 977, 978] (by decide +kernel) (by decide +kernel)
set_option maxRecDepth 20000 in
theorem gL_law_X6_on : GoodIn wsL_law (wsV RL 63 RX6 yX6_on wsX6_on) := goodIn_app (goodIn_of _ (by decide +kernel)) ggL_law_X6_on
set_option maxRecDepth 20000 in
theorem ggL_law_X5_mood : GoodIn wsL_law wsX5_mood := goodIn_r _ [473, 103, 17, 16, 110, 111, 2, 112, 113, 114, 115, 116, 33, 454, 455, 456, 15, 457, 38, 39, 458, 459, 460, 461, 40, 41, 42, 43, 44, 45, 46, 47, 48, 408, 409, 410, 411, 412, 413, 414, 415, 49, 50, 416, 265, 266, 267, 268, 269, 270, 271, 272, 273, 274, 275, 276, 277, 278, 279, 280, 281, 282, 283, 284, 285, 286, 287, 288, 289, 168, 290, 417, 292, 293, 294, 295, 296, 297, 298, 299, 300, 301, 418, 419, 420, 421, 422, 423, 424, 425, 426, 427, 428, 429, 171, 172, 173, 174, 175, 176, 177, 178, 179, 180, 430, 163, 164, 165, 166, 167, 169, 181, 182, 183, 184, 185, 186, 187, 951, 952, 953, 954, 955, 956, 957, 958, 979, 980, 981, 982, 983, 984, 985, 986, 987, 988, 989, 990, 991] (by decide +kernel) (by decide +kernel)
set_option maxRecDepth 20000 in
theorem gL_law_X5_mood : GoodIn wsL_law (wsV RL 64 RX5 yX5_mood wsX5_mood) := goodIn_app (goodIn_of _ (by decide +kernel)) ggL_law_X5_mood
set_option maxRecDepth 20000 in
theorem ggL_law_X6_mood : GoodIn wsL_law wsX6_mood := goodIn_r _ [477, 121, 90, 125, 126, 5, 127, 132, 133, 134, 135, 88, 466, 467, 468, 469, 87, 478, 479, 480, 481, 436, 437, 438, 439, 440, 441, 442, 443, 89, 208, 209, 210, 211, 212, 213, 214, 215, 153, 154, 155, 156, 145, 146, 147, 148, 312, 313, 314, 315, 316, 317, 318, 319, 320, 321, 322, 323, 149, 150, 151, 152, 324, 325, 326, 327, 328, 329, 330, 331, 444, 445, 446, 247, 248, 249, 250, 196, 197, 198, 199, 200, 201, 202, 203, 204, 205, 206, 207, 332, 333, 334, 335, 447, 448, 449, 216, 217, 218, 219, 959, 960, 961, 962, 963, 964, 965, 966, 967, 968, 969, 970, 971, 972, 973, 974, 975, 976, 977, 978] (by decide +kernel) (by decide +kernel)
set_option maxRecDepth 20000 in
theorem gL_law_X6_mood : GoodIn wsL_law (wsV RL 67 RX6 yX6_mood wsX6_mood) := goodIn_app (goodIn_of _ (by decide +kernel)) ggL_law_X6_mood
set_option maxRecDepth 20000 in
theorem ggL_law_X5_peace : GoodIn wsL_law wsX5_peace := goodIn_r _ [485, 17, 16, 486, 454, 455, 456, 15, 457, 38, 39, 458, 459, 460, 461, 40, 41, 42, 43, 44, 45, 46, 47, 48, 487, 413, 414, 415, 49, 50, 416, 265, 266, 267, 268, 269, 270, 271, 272, 273, 274, 275, 276, 277, 278, 279, 280, 281, 282, 283, 284, 285, 286, 287, 288, 289, 168, 290, 417, 292, 293, 294, 295, 296, 297, 298, 299, 300, 301, 162, 163, 164, 165, 166, 167, 169, 488, 419, 420, 421, 422, 423, 424, 425, 426, 427, 428, 429, 171, 172, 173, 174, 175, 176, 177, 178, 179, 180, 430, 113, 114, 115, 2, 116, 103, 33, 951, 952, 953, 954, 955, 956, 957, 958, 979, 980, 981, 982, 983, 984, 985, 986, 987, 988, 989, 990, 991] (by decide +kernel) (by decide +kernel)
set_option maxRecDepth 20000 in
theorem gL_law_X5_peace : GoodIn wsL_law (wsV RL 68 RX5 yX5_peace wsX5_peace) := goodIn_app (goodIn_of _ (by decide +kernel)) ggL_law_X5_peace
set_option maxRecDepth 20000 in
theorem ggL_law_X6_peace : GoodIn wsL_law wsX6_peace := goodIn_r _ [492, 90, 493, 466, 467, 468, 5, 469, 87, 196, 197, 198, 199, 200, 201, 202, 203, 153, 154, 155, 156, 204, 205, 206, 207, 440, 441, 442, 443, 89, 208, 209, 210, 211, 212, 213, 214, 215, 145, 146, 147, 148, 312, 313, 314, 315, 316, 317, 318, 319, 320, 321, 322, 323, 149, 150, 151, 152, 324, 325, 326, 327, 328, 329, 330, 331, 444, 445, 446, 247, 248, 249, 250, 332, 333, 334, 335, 447, 448, 449, 132, 133, 134, 135, 88, 121, 959, 960, 961, 962, 963, 964, 965, 966, 967, 968, 969, 970, 971, 972, 973, 974, 975, 976, 977, 978] (by decide +kernel) (by decide +kernel)
set_option maxRecDepth 20000 in
theorem gL_law_X6_peace : GoodIn wsL_law (wsV RL 72 RX6 yX6_peace wsX6_peace) := goodIn_app (goodIn_of _ (by decide +kernel)) ggL_law_X6_peace
set_option maxRecDepth 20000 in
theorem ggL_law_X5_tells : GoodIn wsL_law wsX5_tells := goodIn_r _ [497, 16, 103, 17, 486, 260, 261, 262, 15, 263, 43, 113, 114, 115, 2, 116, 33, 454, 455, 456, 457, 38, 39, 458, 459, 460, 461, 40, 41, 42, 44, 45, 46, 47, 48, 487, 413, 414, 415, 49, 50, 416, 265, 266, 267, 268, 269, 270, 271, 272, 273, 274, 275, 276, 277, 278, 279, 280, 281, 282, 283, 284, 285, 286, 287, 288, 289, 168, 290, 417, 292, 293, 294, 295, 296, 297, 298, 299, 300, 301, 498, 175, 176, 177, 178, 179, 180, 488, 419, 420, 421, 422, 423, 424, 425, 426, 427, 428, 429, 171, 172, 173, 174, 430, 163, 164, 165, 166, 167, 169, 951, 952, 953, 954, 955, 956, 957, 958, 979, 980, 981, 982, 983, 984, 985, 986, 987, 988, 989, 990, 991] (by decide +kernel) (by decide +kernel)
set_option maxRecDepth 20000 in
theorem gL_law_X5_tells : GoodIn wsL_law (wsV RL 73 RX5 yX5_tells wsX5_tells) := goodIn_app (goodIn_of _ (by decide +kernel)) ggL_law_X5_tells
set_option maxRecDepth 20000 in
theorem ggL_law_X6_tells : GoodIn wsL_law wsX6_tells := goodIn_r _ [502, 121, 90, 493, 308, 309, 310, 5, 311, 87, 125, 126, 127, 132, 133, 134, 135, 88, 466, 467, 468, 469, 212, 213, 214, 215, 153, 154, 155, 156, 145, 146, 147, 148, 440, 441, 442, 443, 89, 208, 209, 210, 211, 312, 313, 314, 315, 316, 317, 318, 319, 320, 321, 322, 323, 149, 150, 151, 152, 324, 325, 326, 327, 328, 329, 330, 331, 444, 445, 446, 247, 248, 249, 250, 196, 197, 198, 199, 200, 201, 202, 203, 204, 205, 206, 207, 332, 333, 334, 335, 447, 448, 449, 959, 960, 961, 962, 963, 964, 965, 966, 967, 968, 969, 970, 971, 972, 973, 974, 975, 976, 977, 978] (by decide +kernel) (by decide +kernel)
set_option maxRecDepth 20000 in
theorem gL_law_X6_tells : GoodIn wsL_law (wsV RL 76 RX6 yX6_tells wsX6_tells) := goodIn_app (goodIn_of _ (by decide +kernel)) ggL_law_X6_tells
set_option maxRecDepth 20000 in
theorem ggL_law_X5_quarrels : GoodIn wsL_law wsX5_quarrels := goodIn_r _ [506, 16, 103, 17, 259, 486, 260, 261, 262, 15, 263, 43, 113, 114, 115, 2, 116, 33, 454, 455, 456, 457, 38, 39, 458, 459, 460, 461, 40, 41, 42, 44, 45, 46, 47, 48, 487, 413, 414, 415, 49, 50, 416, 265, 266, 267, 268, 269, 270, 271, 272, 273, 274, 275, 276, 277, 278, 279, 280, 281, 282, 283, 284, 285, 286, 287, 288, 289, 168, 290, 417, 292, 293, 294, 295, 296, 297, 298, 299, 300, 301, 488, 419, 420, 421, 422, 423, 424, 425, 426, 427, 428, 429, 171, 172, 173, 174, 175, 176, 177, 178, 179, 180, 430, 163, 164, 165, 166, 167, 169, 951, 952, 953, 954, 955, 956, 957, 958, 979, 980, 981, 982, 983, 984, 985, 986, 987, 988, 989, 990, 991] (by decide +kernel) (by decide +kernel)
set_option maxRecDepth 20000 in
theorem gL_law_X5_quarrels : GoodIn wsL_law (wsV RL 77 RX5 yX5_quarrels wsX5_quarrels) := goodIn_app (goodIn_of _ (by decide +kernel)) ggL_law_X5_quarrels
set_option maxRecDepth 20000 in
theorem ggL_law_X6_quarrels : GoodIn wsL_law wsX6_quarrels := goodIn_r _ [510, 121, 90, 493, 308, 309, 310, 5, 311, 87, 125, 126, 127, 132, 133, 134, 135, 88, 466, 467, 468, 469, 153, 154, 155, 156, 440, 441, 442, 443, 89, 208, 209, 210, 211, 212, 213, 214, 215, 145, 146, 147, 148, 312, 313, 314, 315, 316, 317, 318, 319, 320, 321, 322, 323, 149, 150, 151, 152, 324, 325, 326, 327, 328, 329, 330, 331, 444, 445, 446, 247, 248, 249, 250, 196, 197, 198, 199, 200, 201, 202, 203, 204, 205, 206, 207, 332, 333, 334, 335, 447, 448, 449, 959, 960, 961, 962, 963, 964, 965, 966, 967, 968, 969, 970, 971, 972, 973, 974, 975, 976, 977, 978] (by decide +kernel) (by decide +kernel)
set_option maxRecDepth 20000 in
theorem gL_law_X6_quarrels : GoodIn wsL_law (wsV RL 80 RX6 yX6_quarrels wsX6_quarrels) := goodIn_app (goodIn_of _ (by decide +kernel)) ggL_law_X6_quarrels
set_option maxRecDepth 20000 in
theorem ggL_law_X5_best : GoodIn wsL_law wsX5_best := goodIn_r _ [514, 16, 103, 256, 17, 257, 260, 261, 262, 15, 263, 43, 110, 111, 2, 112, 113, 114, 115, 116, 33, 351, 352, 353, 354, 42, 454, 455, 456, 457, 38, 39, 458, 459, 460, 461, 40, 41, 44, 45, 46, 47, 48, 355, 356, 357, 358, 408, 409, 410, 411, 412, 413, 414, 415, 49, 50, 416, 265, 266, 267, 268, 269, 270, 271, 272, 273, 274, 275, 276, 277, 278, 279, 280, 281, 282, 283, 284, 285, 286, 287, 288, 289, 168, 290, 417, 292, 293, 294, 295, 296, 297, 298, 299, 300, 301, 418, 419, 420, 421, 422, 423, 424, 425, 426, 427, 428, 429, 171, 172, 173, 174, 175, 176, 177, 178, 179, 180, 430, 163, 164, 165, 166, 167, 169, 951, 952, 953, 954, 955, 956, 957, 958, 979, 980, 981, 982, 983, 984, 985, 986, 987, 988, 989, 990, 991] (by decide +kernel) (by decide +kernel)
set_option maxRecDepth 20000 in
theorem gL_law_X5_best : GoodIn wsL_law (wsV RL 81 RX5 yX5_best wsX5_best) := goodIn_app (goodIn_of _ (by decide +kernel)) ggL_law_X5_best
set_option maxRecDepth 20000 in
theorem ggL_law_X6_best : GoodIn wsL_law wsX6_best := goodIn_r _ [518, 121, 90, 308, 309, 310, 5, 311, 87, 125, 126, 127, 132, 133, 134, 135, 88, 466, 467, 468, 469, 149, 150, 151, 152, 153, 154, 155, 156, 247, 248, 249, 250, 519, 520, 521, 522, 436, 437, 438, 439, 440, 441, 442, 443, 89, 208, 209, 210, 211, 212, 213, 214, 215, 145, 146, 147, 148, 312, 313, 314, 315, 316, 317, 318, 319, 320, 321, 322, 323, 324, 325, 326, 327, 328, 329, 330, 331, 444, 445, 446, 196, 197, 198, 199, 200, 201, 202, 203, 204, 205, 206, 207, 332, 333, 334, 335, 447, 448, 449, 959, 960, 961, 962, 963, 964, 965, 966, 967, 968, 969, 970, 971, 972, 973, 974, 975, 976, 977, 978] (by decide +kernel) (by decide +kernel)
set_option maxRecDepth 20000 in
theorem gL_law_X6_best : GoodIn wsL_law (wsV RL 84 RX6 yX6_best wsX6_best) := goodIn_app (goodIn_of _ (by decide +kernel)) ggL_law_X6_best
set_option maxRecDepth 20000 in
theorem ggL_law_X5_laid : GoodIn wsL_law wsX5_laid := goodIn_r _ [526, 103, 17, 16, 104, 105, 107, 108, 2, 109, 110, 111, 112, 113, 114, 115, 116, 33, 454, 455, 456, 15, 457, 38, 39, 458, 459, 460, 461, 40, 41, 42, 43, 44, 45, 46, 47, 48, 408, 409, 410, 411, 412, 413, 414, 415, 49, 50, 416, 265, 266, 267, 268, 269, 270, 271, 272, 273, 274, 275, 276, 277, 278, 279, 280, 281, 282, 283, 284, 285, 286, 287, 288, 289, 168, 290, 417, 292, 293, 294, 295, 296, 297, 298, 299, 300, 301, 418, 419, 420, 421, 422, 423, 424, 425, 426, 427, 428, 429, 171, 172, 173, 174, 175, 176, 177, 178, 179, 180, 430, 163, 164, 165, 166, 167, 169, 181, 182, 183, 184, 185, 186, 187, 951, 952, 953, 954, 955, 956, 957, 958, 979, 980, 981, 982, 983, 984, 985, 986, 987, 988, 989, 990, 991] (by decide +kernel) (by decide +kernel)
set_option maxRecDepth 20000 in
theorem gL_law_X5_laid : GoodIn wsL_law (wsV RL 85 RX5 yX5_laid wsX5_laid) := goodIn_app (goodIn_of _ (by decide +kernel)) ggL_law_X5_laid
set_option maxRecDepth 20000 in
theorem ggL_law_X6_laid : GoodIn wsL_law wsX6_laid := goodIn_r _ [530, 121, 90, 87, 122, 123, 5, 124, 125, 126, 127, 132, 133, 134, 135, 88, 466, 467, 468, 469, 478, 479, 480, 481, 436, 437, 438, 439, 440, 441, 442, 443, 89, 208, 209, 210, 211, 212, 213, 214, 215, 153, 154, 155, 156, 145, 146, 147, 148, 312, 313, 314, 315, 316, 317, 318, 319, 320, 321, 322, 323, 149, 150, 151, 152, 324, 325, 326, 327, 328, 329, 330, 331, 444, 445, 446, 247, 248, 249, 250, 196, 197, 198, 199, 200, 201, 202, 203, 204, 205, 206, 207, 332, 333, 334, 335, 447, 448, 449, 216, 217, 218, 219, 959, 960, 961, 962, 963, 964, 965, 966, 967, 968, 969, 970, 971, 972, 973, 974, 975, 976, 977, 978] (by decide +kernel) (by decide +kernel)
set_option maxRecDepth 20000 in
theorem gL_law_X6_laid : GoodIn wsL_law (wsV RL 88 RX6 yX6_laid wsX6_laid) := goodIn_app (goodIn_of _ (by decide +kernel)) ggL_law_X6_laid
set_option maxRecDepth 20000 in
theorem ggL_law_X5_knife : GoodIn wsL_law wsX5_knife := goodIn_r _ [534, 103, 17, 16, 104, 110, 111, 2, 112, 113, 114, 115, 116, 33, 454, 455, 456, 15, 457, 38, 39, 458, 459, 460, 461, 40, 41, 42, 43, 44, 45, 46, 47, 48, 408, 409, 410, 411, 412, 413, 414, 415, 49, 50, 416, 265, 266, 267, 268, 269, 270, 271, 272, 273, 274, 275, 276, 277, 278, 279, 280, 281, 282, 283, 284, 285, 286, 287, 288, 289, 168, 290, 417, 292, 293, 294, 295, 296, 297, 298, 299, 300, 301, 418, 419, 420, 421, 422, 423, 424, 425, 426, 427, 428, 429, 171, 172, 173, 174, 175, 176, 177, 178, 179, 180, 430, 163, 164, 165, 166, 167, 169, 181, 182, 183, 184, 185, 186, 187, 951, 952, 953, 954, 955, 956, 957, 958, 979, 980, 981, 982, 983, 984, 985, 986, 987, 988, 989, 990, 991] (by decide +kernel) (by decide +kernel)
set_option maxRecDepth 20000 in
theorem gL_law_X5_knife : GoodIn wsL_law (wsV RL 89 RX5 yX5_knife wsX5_knife) := goodIn_app (goodIn_of _ (by decide +kernel)) ggL_law_X5_knife
set_option maxRecDepth 20000 in
theorem ggL_law_X6_knife : GoodIn wsL_law wsX6_knife := goodIn_r _ [538, 121, 90, 87, 125, 126, 5, 127, 132, 133, 134, 135, 88, 466, 467, 468, 469, 145, 146, 147, 148, 478, 479, 480, 481, 436, 437, 438, 439, 440, 441, 442, 443, 89, 208, 209, 210, 211, 212, 213, 214, 215, 153, 154, 155, 156, 312, 313, 314, 315, 316, 317, 318, 319, 320, 321, 322, 323, 149, 150, 151, 152, 324, 325, 326, 327, 328, 329, 330, 331, 444, 445, 446, 247, 248, 249, 250, 196, 197, 198, 199, 200, 201, 202, 203, 204, 205, 206, 207, 332, 333, 334, 335, 447, 448, 449, 216, 217, 218, 219, 959, 960, 961, 962, 963, 964, 965, 966, 967, 968, 969, 970, 971, 972, 973, 974, 975, 976, 977, 978] (by decide +kernel) (by decide +kernel)
set_option maxRecDepth 20000 in
theorem gL_law_X6_knife : GoodIn wsL_law (wsV RL 92 RX6 yX6_knife wsX6_knife) := goodIn_app (goodIn_of _ (by decide +kernel)) ggL_law_X6_knife
set_option maxRecDepth 20000 in
theorem ggL_law_X5_kind : GoodIn wsL_law wsX5_kind := goodIn_r _ [542, 16, 103, 17, 255, 257, 260, 261, 262, 15, 263, 43, 110, 111, 2, 112, 113, 114, 115, 116, 33, 454, 455, 456, 457, 38, 39, 458, 459, 460, 461, 40, 41, 42, 44, 45, 46, 47, 48, 408, 409, 410, 411, 412, 413, 414, 415, 49, 50, 416, 265, 266, 267, 268, 269, 270, 271, 272, 273, 274, 275, 276, 277, 278, 279, 280, 281, 282, 283, 284, 285, 286, 287, 288, 289, 168, 290, 417, 292, 293, 294, 295, 296, 297, 298, 299, 300, 301, 418, 419, 420, 421, 422, 423, 424, 425, 426, 427, 428, 429, 171, 172, 173, 174, 175, 176, 177, 178, 179, 180, 430, 163, 164, 165, 166, 167, 169, 951, 952, 953, 954, 955, 956, 957, 958, 979, 980, 981, 982, 983, 984, 985, 986, 987, 988, 989, 990, 991] (by decide +kernel) (by decide +kernel)
set_option maxRecDepth 20000 in
theorem gL_law_X5_kind : GoodIn wsL_law (wsV RL 93 RX5 yX5_kind wsX5_kind) := goodIn_app (goodIn_of _ (by decide +kernel)) ggL_law_X5_kind
set_option maxRecDepth 20000 in
theorem ggL_law_X6_kind : GoodIn wsL_law wsX6_kind := goodIn_r _ [546, 121, 90, 308, 309, 310, 5, 311, 87, 125, 126, 127, 132, 133, 134, 135, 88, 466, 467, 468, 469, 247, 248, 249, 250, 519, 520, 521, 522, 436, 437, 438, 439, 440, 441, 442, 443, 89, 208, 209, 210, 211, 212, 213, 214, 215, 153, 154, 155, 156, 145, 146, 147, 148, 312, 313, 314, 315, 316, 317, 318, 319, 320, 321, 322, 323, 149, 150, 151, 152, 324, 325, 326, 327, 328, 329, 330, 331, 444, 445, 446, 196, 197, 198, 199, 200, 201, 202, 203, 204, 205, 206, 207, 332, 333, 334, 335, 447, 448, 449, 959, 960, 961, 962, 963, 964, 965, 966, 967, 968, 969, 970, 971, 972, 973, 974, 975, 976, 977, 978] (by decide +kernel) (by decide +kernel)
set_option maxRecDepth 20000 in
theorem gL_law_X6_kind : GoodIn wsL_law (wsV RL 96 RX6 yX6_kind wsX6_kind) := goodIn_app (goodIn_of _ (by decide +kernel)) ggL_law_X6_kind
set_option maxRecDepth 20000 in
theorem ggL_law_X5_spoon : GoodIn wsL_law wsX5_spoon := goodIn_r _ [550, 103, 17, 16, 106, 486, 107, 108, 2, 109, 110, 111, 112, 113, 114, 115, 116, 33, 454, 455, 456, 15, 457, 38, 39, 458, 459, 460, 461, 40, 41, 42, 43, 44, 45, 46, 47, 48, 408, 409, 410, 411, 412, 413, 414, 415, 49, 50, 416, 265, 266, 267, 268, 269, 270, 271, 272, 273, 274, 275, 276, 277, 278, 279, 280, 281, 282, 283, 284, 285, 286, 287, 288, 289, 168, 290, 417, 292, 293, 294, 295, 296, 297, 298, 299, 300, 301, 418, 419, 420, 421, 422, 423, 424, 425, 426, 427, 428, 429, 171, 172, 173, 174, 175, 176, 177, 178, 179, 180, 430, 163, 164, 165, 166, 167, 169, 181, 182, 183, 184, 185, 186, 187, 951, 952, 953, 954, 955, 956, 957, 958, 979, 980, 981, 982, 983, 984, 985, 986, 987, 988, 989, 990, 991] (by decide +kernel) (by decide +kernel)
set_option maxRecDepth 20000 in
theorem gL_law_X5_spoon : GoodIn wsL_law (wsV RL 97 RX5 yX5_spoon wsX5_spoon) := goodIn_app (goodIn_of _ (by decide +kernel)) ggL_law_X5_spoon
set_option maxRecDepth 20000 in
theorem ggL_law_X6_spoon : GoodIn wsL_law wsX6_spoon := goodIn_r _ [554, 121, 90, 87, 493, 122, 123, 5, 124, 125, 126, 127, 132, 133, 134, 135, 88, 466, 467, 468, 469, 478, 479, 480, 481, 436, 437, 438, 439, 440, 441, 442, 443, 89, 208, 209, 210, 211, 212, 213, 214, 215, 153, 154, 155, 156, 145, 146, 147, 148, 312, 313, 314, 315, 316, 317, 318, 319, 320, 321, 322, 323, 149, 150, 151, 152, 324, 325, 326, 327, 328, 329, 330, 331, 444, 445, 446, 247, 248, 249, 250, 196, 197, 198, 199, 200, 201, 202, 203, 204, 205, 206, 207, 332, 333, 334, 335, 447, 448, 449, 216, 217, 218, 219, 959, 960, 961, 962, 963, 964, 965, 966, 967, 968, 969, 970, 971, 972, 973, 974, 975, 976, 977, 978] (by decide +kernel) (by decide +kernel)
set_option maxRecDepth 20000 in
theorem gL_law_X6_spoon : GoodIn wsL_law (wsV RL 100 RX6 yX6_spoon wsX6_spoon) := goodIn_app (goodIn_of _ (by decide +kernel)) ggL_law_X6_spoon
set_option maxRecDepth 20000 in
theorem ggL_law_X5_change : GoodIn wsL_law wsX5_change := goodIn_r _ [558, 103, 17, 16, 486, 224, 110, 111, 2, 112, 113, 114, 115, 116, 33, 454, 455, 456, 15, 457, 38, 39, 458, 459, 460, 461, 40, 41, 42, 43, 44, 45, 46, 47, 48, 408, 409, 410, 411, 412, 413, 414, 415, 49, 50, 416, 265, 266, 267, 268, 269, 270, 271, 272, 273, 274, 275, 276, 277, 278, 279, 280, 281, 282, 283, 284, 285, 286, 287, 288, 289, 168, 290, 417, 292, 293, 294, 295, 296, 297, 298, 299, 300, 301, 418, 419, 420, 421, 422, 423, 424, 425, 426, 427, 428, 429, 171, 172, 173, 174, 175, 176, 177, 178, 179, 180, 430, 163, 164, 165, 166, 167, 169, 559, 560, 561, 562, 185, 186, 187, 367, 368, 369, 370, 951, 952, 953, 954, 955, 956, 957, 958, 979, 980, 981, 982, 983, 984, 985, 986, 987, 988, 989, 990, 991] (by decide +kernel) (by decide +kernel)
set_option maxRecDepth 20000 in
theorem gL_law_X5_change : GoodIn wsL_law (wsV RL 101 RX5 yX5_change wsX5_change) := goodIn_app (goodIn_of _ (by decide +kernel)) ggL_law_X5_change
set_option maxRecDepth 20000 in
theorem ggL_law_X6_change : GoodIn wsL_law wsX6_change := goodIn_r _ [566, 121, 90, 87, 493, 125, 126, 5, 127, 132, 133, 134, 135, 88, 466, 467, 468, 469, 478, 479, 480, 481, 436, 437, 438, 439, 440, 441, 442, 443, 89, 208, 209, 210, 211, 212, 213, 214, 215, 153, 154, 155, 156, 145, 146, 147, 148, 312, 313, 314, 315, 316, 317, 318, 319, 320, 321, 322, 323, 149, 150, 151, 152, 324, 325, 326, 327, 328, 329, 330, 331, 444, 445, 446, 247, 248, 249, 250, 196, 197, 198, 199, 200, 201, 202, 203, 204, 205, 206, 207, 332, 333, 334, 335, 447, 448, 449, 216, 217, 218, 219, 375, 376, 377, 378, 959, 960, 961, 962, 963, 964, 965, 966, 967, 968, 969, 970, 971, 972, 973, 974, 975, 976, 977, 978] (by decide +kernel) (by decide +kernel)
set_option maxRecDepth 20000 in
theorem gL_law_X6_change : GoodIn wsL_law (wsV RL 104 RX6 yX6_change wsX6_change) := goodIn_app (goodIn_of _ (by decide +kernel)) ggL_law_X6_change
set_option maxRecDepth 20000 in
theorem ggL_law_X5_feed : GoodIn wsL_law wsX5_feed := goodIn_r _ [570, 103, 23, 571, 225, 110, 111, 2, 112, 113, 114, 115, 116, 33, 572, 573, 574, 22, 575, 60, 59, 951, 952, 953, 954, 955, 956, 957, 958, 992, 993, 994, 995, 996, 997] (by decide +kernel) (by decide +kernel)
set_option maxRecDepth 20000 in
theorem gL_law_X5_feed : GoodIn wsL_law (wsV RL 105 RX5 yX5_feed wsX5_feed) := goodIn_app (goodIn_of _ (by decide +kernel)) ggL_law_X5_feed
set_option maxRecDepth 20000 in
theorem ggL_law_X6_feed : GoodIn wsL_law wsX6_feed := goodIn_r _ [579, 121, 580, 238, 92, 125, 126, 5, 127, 132, 133, 134, 135, 88, 959, 960, 961, 962, 963, 964, 965, 966, 967, 968, 969, 970, 971, 972, 973, 974, 975, 976, 977, 978] (by decide +kernel) (by decide +kernel)
set_option maxRecDepth 20000 in
theorem gL_law_X6_feed : GoodIn wsL_law (wsV RL 108 RX6 yX6_feed wsX6_feed) := goodIn_app (goodIn_of _ (by decide +kernel)) ggL_law_X6_feed
set_option maxRecDepth 20000 in
theorem ggL_law_X5_wipe : GoodIn wsL_law wsX5_wipe := goodIn_r _ [584, 23, 585, 586, 587, 22, 588, 60, 951, 952, 953, 954, 955, 956, 957, 958, 992, 993, 994, 995, 996, 997] (by decide +kernel) (by decide +kernel)
set_option maxRecDepth 20000 in
theorem gL_law_X5_wipe : GoodIn wsL_law (wsV RL 109 RX5 yX5_wipe wsX5_wipe) := goodIn_app (goodIn_of _ (by decide +kernel)) ggL_law_X5_wipe
set_option maxRecDepth 20000 in
theorem ggL_law_X6_wipe : GoodIn wsL_law wsX6_wipe := goodIn_r _ [592, 580, 959, 960, 961, 962, 963, 964, 965, 966, 967, 968, 969, 970, 971, 972, 973, 974, 975, 976, 977, 978] (by decide +kernel) (by decide +kernel)
set_option maxRecDepth 20000 in
theorem gL_law_X6_wipe : GoodIn wsL_law (wsV RL 112 RX6 yX6_wipe wsX6_wipe) := goodIn_app (goodIn_of _ (by decide +kernel)) ggL_law_X6_wipe
set_option maxRecDepth 20000 in
theorem ggL_law_X5_dinner : GoodIn wsL_law wsX5_dinner := goodIn_r _ [596, 17, 16, 27, 23, 454, 455, 456, 15, 457, 38, 39, 458, 459, 460, 461, 40, 41, 42, 43, 44, 45, 46, 47, 48, 597, 598, 599, 26, 600, 73, 601, 602, 603, 62, 63, 22, 64, 65, 66, 67, 68, 604, 605, 606, 607, 60, 59, 608, 609, 610, 611, 612, 613, 614, 615, 616, 617, 618, 619, 620, 621, 622, 423, 424, 425, 623, 624, 625, 626, 74, 627, 628, 629, 630, 631, 632, 633, 634, 635, 636, 637, 638, 639, 640, 641, 642, 643, 644, 645, 646, 647, 648, 649, 650, 651, 652, 653, 654, 655, 656, 657, 658, 659, 660, 661, 662, 663, 664, 665, 666, 667, 668, 669, 670, 671, 672, 673, 674, 675, 676, 677, 678, 679, 680, 681, 682, 683, 684, 685, 686, 687, 688, 689, 690, 691, 692, 693, 694, 695, 696, 697, 698, 699, 700, 701, 702, 368, 369, 370, 703, 704, 705, 706, 707, 708, 709, 710, 711, 712, 713, 714, 715, 231, 232, 233, 585, 586, 587, 588, 951, 952, 953, 954, 955, 956, 957, 958, 979, 980, 981, 982, 983, 984, 985, 986, 987, 988, 989, 990, 991, 998, 999, 992, 993, 994, 995, 996, 997] (by decide +kernel) (by decide +kernel)
set_option maxRecDepth 20000 in
theorem gL_law_X5_dinner : GoodIn wsL_law (wsV RL 113 RX5 yX5_dinner wsX5_dinner) := goodIn_app (goodIn_of _ (by decide +kernel)) ggL_law_X5_dinner
set_option maxRecDepth 20000 in
theorem ggL_law_X6_dinner : GoodIn wsL_law wsX6_dinner := goodIn_r _ [719, 98, 720, 721, 722, 723, 580, 724, 466, 467, 468, 5, 469, 87, 725, 726, 727, 728, 729, 730, 731, 732, 733, 734, 735, 736, 92, 737, 738, 739, 125, 126, 127, 740, 741, 742, 743, 744, 745, 746, 747, 748, 749, 750, 751, 752, 753, 754, 755, 756, 757, 758, 759, 760, 761, 762, 763, 764, 765, 766, 122, 123, 124, 149, 150, 151, 152, 153, 154, 155, 156, 767, 768, 769, 770, 243, 244, 245, 246, 247, 248, 249, 250, 771, 772, 773, 774, 775, 776, 777, 778, 779, 780, 781, 782, 783, 784, 785, 786, 787, 788, 789, 375, 376, 377, 378, 959, 960, 961, 962, 963, 964, 965, 966, 967, 968, 969, 970, 971, 972, 973, 974, 975, 976, 977, 978] (by decide +kernel) (by decide +kernel)
set_option maxRecDepth 20000 in
theorem gL_law_X6_dinner : GoodIn wsL_law (wsV RL 116 RX6 yX6_dinner wsX6_dinner) := goodIn_app (goodIn_of _ (by decide +kernel)) ggL_law_X6_dinner
set_option maxRecDepth 20000 in
theorem ggL_law_X5_sheet : GoodIn wsL_law wsX5_sheet := goodIn_r _ [793, 103, 794, 29, 795, 796, 797, 2, 798, 113, 114, 115, 116, 33, 799, 800, 801, 31, 802, 79, 80, 82, 803, 804, 53, 805, 951, 952, 953, 954, 955, 956, 957, 958, 1000, 1001, 1002] (by decide +kernel) (by decide +kernel)
set_option maxRecDepth 20000 in
theorem gL_law_X5_sheet : GoodIn wsL_law (wsV RL 117 RX5 yX5_sheet wsX5_sheet) := goodIn_app (goodIn_of _ (by decide +kernel)) ggL_law_X5_sheet
set_option maxRecDepth 20000 in
theorem ggL_law_X6_sheet : GoodIn wsL_law wsX6_sheet := goodIn_r _ [809, 121, 810, 93, 94, 95, 811, 812, 5, 813, 125, 126, 127, 132, 133, 134, 135, 88, 959, 960, 961, 962, 963, 964, 965, 966, 967, 968, 969, 970, 971, 972, 973, 974, 975, 976, 977, 978] (by decide +kernel) (by decide +kernel)
set_option maxRecDepth 20000 in
theorem gL_law_X6_sheet : GoodIn wsL_law (wsV RL 120 RX6 yX6_sheet wsX6_sheet) := goodIn_app (goodIn_of _ (by decide +kernel)) ggL_law_X6_sheet
set_option maxRecDepth 20000 in
theorem ggL_law_X5_write : GoodIn wsL_law wsX5_write := goodIn_r _ [817, 103, 29, 818, 819, 796, 797, 2, 798, 113, 114, 115, 116, 33, 820, 821, 822, 31, 823, 79, 824, 825, 826, 827, 80, 828, 829, 830, 831, 82, 951, 952, 953, 954, 955, 956, 957, 958, 1000, 1001, 1002] (by decide +kernel) (by decide +kernel)
set_option maxRecDepth 20000 in
theorem gL_law_X5_write : GoodIn wsL_law (wsV RL 123 RX5 yX5_write wsX5_write) := goodIn_app (goodIn_of _ (by decide +kernel)) ggL_law_X5_write
set_option maxRecDepth 20000 in
theorem ggL_law_X6_write : GoodIn wsL_law wsX6_write := goodIn_r _ [835, 121, 93, 836, 94, 95, 811, 812, 5, 813, 125, 126, 127, 132, 133, 134, 135, 88, 837, 838, 839, 959, 960, 961, 962, 963, 964, 965, 966, 967, 968, 969, 970, 971, 972, 973, 974, 975, 976, 977, 978] (by decide +kernel) (by decide +kernel)
set_option maxRecDepth 20000 in
theorem gL_law_X6_write : GoodIn wsL_law (wsV RL 127 RX6 yX6_write wsX6_write) := goodIn_app (goodIn_of _ (by decide +kernel)) ggL_law_X6_write
set_option maxRecDepth 20000 in
theorem ggL_law_X5_copy : GoodIn wsL_law wsX5_copy := goodIn_r _ [843, 103, 29, 818, 844, 391, 819, 845, 459, 460, 461, 796, 797, 2, 798, 113, 114, 115, 116, 33, 820, 821, 822, 31, 823, 79, 846, 847, 848, 849, 80, 951, 952, 953, 954, 955, 956, 957, 958, 1000, 1001, 1002] (by decide +kernel) (by decide +kernel)
set_option maxRecDepth 20000 in
theorem gL_law_X5_copy : GoodIn wsL_law (wsV RL 128 RX5 yX5_copy wsX5_copy) := goodIn_app (goodIn_of _ (by decide +kernel)) ggL_law_X5_copy
set_option maxRecDepth 20000 in
theorem ggL_law_X6_copy : GoodIn wsL_law wsX6_copy := goodIn_r _ [853, 121, 93, 836, 402, 96, 95, 811, 812, 5, 813, 125, 126, 127, 132, 133, 134, 135, 88, 854, 855, 856, 857, 94, 959, 960, 961, 962, 963, 964, 965, 966, 967, 968, 969, 970, 971, 972, 973, 974, 975, 976, 977, 978] (by decide +kernel) (by decide +kernel)
set_option maxRecDepth 20000 in
theorem gL_law_X6_copy : GoodIn wsL_law (wsV RL 132 RX6 yX6_copy wsX6_copy) := goodIn_app (goodIn_of _ (by decide +kernel)) ggL_law_X6_copy
set_option maxRecDepth 20000 in
theorem ggL_law_X5_lays : GoodIn wsL_law wsX5_lays := goodIn_r _ [861, 103, 29, 818, 795, 16, 224, 819, 862, 863, 257, 796, 797, 2, 798, 113, 114, 115, 116, 33, 820, 821, 822, 31, 823, 79, 951, 952, 953, 954, 955, 956, 957, 958, 1000, 1001, 1002, 979, 980, 981, 982, 983, 984, 985, 986, 987, 988, 989, 990, 991] (by decide +kernel) (by decide +kernel)
set_option maxRecDepth 20000 in
theorem gL_law_X5_lays : GoodIn wsL_law (wsV RL 133 RX5 yX5_lays wsX5_lays) := goodIn_app (goodIn_of _ (by decide +kernel)) ggL_law_X5_lays
set_option maxRecDepth 20000 in
theorem ggL_law_X6_lays : GoodIn wsL_law wsX6_lays := goodIn_r _ [867, 94, 87, 95, 868, 869, 870, 871, 872, 5, 873, 121, 93, 836, 811, 812, 813, 125, 126, 127, 132, 133, 134, 135, 88, 247, 248, 249, 250, 959, 960, 961, 962, 963, 964, 965, 966, 967, 968, 969, 970, 971, 972, 973, 974, 975, 976, 977, 978] (by decide +kernel) (by decide +kernel)
set_option maxRecDepth 20000 in
theorem gL_law_X6_lays : GoodIn wsL_law (wsV RL 136 RX6 yX6_lays wsX6_lays) := goodIn_app (goodIn_of _ (by decide +kernel)) ggL_law_X6_lays
set_option maxRecDepth 20000 in
theorem ggL_law_X5_book : GoodIn wsL_law wsX5_book := goodIn_r _ [877, 29, 17, 16, 795, 257, 878, 879, 880, 2, 881, 103, 818, 796, 797, 798, 820, 821, 822, 31, 823, 79, 260, 261, 262, 15, 263, 43, 113, 114, 115, 116, 33, 454, 455, 456, 457, 38, 39, 458, 459, 460, 461, 40, 41, 42, 44, 45, 46, 47, 48, 487, 413, 414, 415, 49, 50, 416, 265, 266, 267, 268, 269, 270, 271, 272, 273, 274, 275, 276, 277, 278, 279, 280, 281, 282, 283, 284, 285, 286, 287, 288, 289, 168, 290, 417, 292, 293, 294, 295, 296, 297, 298, 299, 300, 301, 828, 829, 830, 831, 82, 488, 419, 420, 421, 422, 423, 424, 425, 426, 427, 428, 429, 171, 172, 173, 174, 175, 176, 177, 178, 179, 180, 430, 163, 164, 165, 166, 167, 169, 951, 952, 953, 954, 955, 956, 957, 958, 1000, 1001, 1002, 979, 980, 981, 982, 983, 984, 985, 986, 987, 988, 989, 990, 991] (by decide +kernel) (by decide +kernel)
set_option maxRecDepth 20000 in
theorem gL_law_X5_book : GoodIn wsL_law (wsV RL 137 RX5 yX5_book wsX5_book) := goodIn_app (goodIn_of _ (by decide +kernel)) ggL_law_X5_book
set_option maxRecDepth 20000 in
theorem ggL_law_X6_book : GoodIn wsL_law wsX6_book := goodIn_r _ [885, 121, 90, 94, 95, 870, 871, 872, 5, 873, 93, 836, 811, 812, 813, 125, 126, 127, 132, 133, 134, 135, 88, 308, 309, 310, 311, 87, 466, 467, 468, 469, 153, 154, 155, 156, 440, 441, 442, 443, 89, 208, 209, 210, 211, 212, 213, 214, 215, 145, 146, 147, 148, 312, 313, 314, 315, 316, 317, 318, 319, 320, 321, 322, 323, 149, 150, 151, 152, 324, 325, 326, 327, 328, 329, 330, 331, 444, 445, 446, 247, 248, 249, 250, 196, 197, 198, 199, 200, 201, 202, 203, 204, 205, 206, 207, 332, 333, 334, 335, 447, 448, 449, 959, 960, 961, 962, 963, 964, 965, 966, 967, 968, 969, 970, 971, 972, 973, 974, 975, 976, 977, 978] (by decide +kernel) (by decide +kernel)
set_option maxRecDepth 20000 in
theorem gL_law_X6_book : GoodIn wsL_law (wsV RL 140 RX6 yX6_book wsX6_book) := goodIn_app (goodIn_of _ (by decide +kernel)) ggL_law_X6_book
set_option maxRecDepth 20000 in
theorem ggL_law_X5_read : GoodIn wsL_law wsX5_read := goodIn_r _ [889, 17, 16, 255, 106, 256, 29, 878, 879, 880, 2, 881, 103, 818, 796, 797, 798, 820, 821, 822, 31, 823, 79, 260, 261, 262, 15, 263, 43, 113, 114, 115, 116, 33, 454, 455, 456, 457, 38, 39, 458, 459, 460, 461, 40, 41, 42, 44, 45, 46, 47, 48, 890, 891, 892, 893, 795, 819, 257, 487, 413, 414, 415, 49, 50, 416, 265, 266, 267, 268, 269, 270, 271, 272, 273, 274, 275, 276, 277, 278, 279, 280, 281, 282, 283, 284, 285, 286, 287, 288, 289, 168, 290, 417, 292, 293, 294, 295, 296, 297, 298, 299, 300, 301, 488, 419, 420, 421, 422, 423, 424, 425, 426, 427, 428, 429, 171, 172, 173, 174, 175, 176, 177, 178, 179, 180, 430, 163, 164, 165, 166, 167, 169, 951, 952, 953, 954, 955, 956, 957, 958, 979, 980, 981, 982, 983, 984, 985, 986, 987, 988, 989, 990, 991, 1000, 1001, 1002] (by decide +kernel) (by decide +kernel)
set_option maxRecDepth 20000 in
theorem gL_law_X5_read : GoodIn wsL_law (wsV RL 141 RX5 yX5_read wsX5_read) := goodIn_app (goodIn_of _ (by decide +kernel)) ggL_law_X5_read
set_option maxRecDepth 20000 in
theorem ggL_law_X6_read : GoodIn wsL_law wsX6_read := goodIn_r _ [897, 121, 91, 87, 870, 871, 872, 5, 873, 93, 836, 811, 812, 813, 125, 126, 127, 132, 133, 134, 135, 88, 308, 309, 310, 311, 466, 467, 468, 469, 247, 248, 249, 250, 153, 154, 155, 156, 898, 899, 900, 901, 94, 95, 440, 441, 442, 443, 89, 208, 209, 210, 211, 212, 213, 214, 215, 145, 146, 147, 148, 312, 313, 314, 315, 316, 317, 318, 319, 320, 321, 322, 323, 149, 150, 151, 152, 324, 325, 326, 327, 328, 329, 330, 331, 444, 445, 446, 196, 197, 198, 199, 200, 201, 202, 203, 204, 205, 206, 207, 332, 333, 334, 335, 447, 448, 449, 959, 960, 961, 962, 963, 964, 965, 966, 967, 968, 969, 970, 971, 972, 973, 974, 975, 976, 977, 978] (by decide +kernel) (by decide +kernel)
set_option maxRecDepth 20000 in
theorem gL_law_X6_read : GoodIn wsL_law (wsV RL 144 RX6 yX6_read wsX6_read) := goodIn_app (goodIn_of _ (by decide +kernel)) ggL_law_X6_read
set_option maxRecDepth 20000 in
theorem ggL_law_X5_image : GoodIn wsL_law wsX5_image := goodIn_r _ [905, 18, 16, 19, 454, 455, 456, 15, 457, 38, 39, 458, 459, 460, 461, 40, 41, 42, 43, 44, 45, 46, 47, 48, 951, 952, 953, 954, 955, 956, 957, 958, 979, 980, 981, 982, 983, 984, 985, 986, 987, 988, 989, 990, 991] (by decide +kernel) (by decide +kernel)
set_option maxRecDepth 20000 in
theorem gL_law_X5_image : GoodIn wsL_law (wsV RL 145 RX5 yX5_image wsX5_image) := goodIn_app (goodIn_of _ (by decide +kernel)) ggL_law_X5_image
set_option maxRecDepth 20000 in
theorem ggL_law_X6_image : GoodIn wsL_law wsX6_image := goodIn_r _ [909, 97, 910, 466, 467, 468, 5, 469, 87, 959, 960, 961, 962, 963, 964, 965, 966, 967, 968, 969, 970, 971, 972, 973, 974, 975, 976, 977, 978] (by decide +kernel) (by decide +kernel)
set_option maxRecDepth 20000 in
theorem gL_law_X6_image : GoodIn wsL_law (wsV RL 148 RX6 yX6_image wsX6_image) := goodIn_app (goodIn_of _ (by decide +kernel)) ggL_law_X6_image
set_option maxRecDepth 20000 in
theorem ggL_law_X5_undo : GoodIn wsL_law wsX5_undo := goodIn_r _ [914, 19, 486, 16, 18, 224, 113, 114, 115, 2, 116, 103, 33, 454, 455, 456, 15, 457, 38, 39, 458, 459, 460, 461, 40, 41, 42, 43, 44, 45, 46, 47, 48, 951, 952, 953, 954, 955, 956, 957, 958, 979, 980, 981, 982, 983, 984, 985, 986, 987, 988, 989, 990, 991] (by decide +kernel) (by decide +kernel)
set_option maxRecDepth 20000 in
theorem gL_law_X5_undo : GoodIn wsL_law (wsV RL 149 RX5 yX5_undo wsX5_undo) := goodIn_app (goodIn_of _ (by decide +kernel)) ggL_law_X5_undo
set_option maxRecDepth 20000 in
theorem ggL_law_X6_undo : GoodIn wsL_law wsX6_undo := goodIn_r _ [918, 910, 493, 97, 87, 132, 133, 134, 5, 135, 88, 121, 466, 467, 468, 469, 959, 960, 961, 962, 963, 964, 965, 966, 967, 968, 969, 970, 971, 972, 973, 974, 975, 976, 977, 978] (by decide +kernel) (by decide +kernel)
set_option maxRecDepth 20000 in
theorem gL_law_X6_undo : GoodIn wsL_law (wsV RL 152 RX6 yX6_undo wsX6_undo) := goodIn_app (goodIn_of _ (by decide +kernel)) ggL_law_X6_undo
set_option maxRecDepth 20000 in
theorem ggL_law_X5_tear : GoodIn wsL_law wsX5_tear := goodIn_r _ [922, 19, 951, 952, 953, 954, 955, 956, 957, 958] (by decide +kernel) (by decide +kernel)
set_option maxRecDepth 20000 in
theorem gL_law_X5_tear : GoodIn wsL_law (wsV RL 153 RX5 yX5_tear wsX5_tear) := goodIn_app (goodIn_of _ (by decide +kernel)) ggL_law_X5_tear
set_option maxRecDepth 20000 in
theorem ggL_law_X6_tear : GoodIn wsL_law wsX6_tear := goodIn_r _ [926, 910, 959, 960, 961, 962, 963, 964, 965, 966, 967, 968, 969, 970, 971, 972, 973, 974, 975, 976, 977, 978] (by decide +kernel) (by decide +kernel)
set_option maxRecDepth 20000 in
theorem gL_law_X6_tear : GoodIn wsL_law (wsV RL 156 RX6 yX6_tear wsX6_tear) := goodIn_app (goodIn_of _ (by decide +kernel)) ggL_law_X6_tear
set_option maxRecDepth 20000 in
theorem ggL_law_X5_count : GoodIn wsL_law wsX5_count := goodIn_r _ [930, 16, 224, 23, 571, 103, 559, 560, 561, 15, 562, 48, 43, 185, 186, 187, 931, 932, 933, 934, 41, 113, 114, 115, 2, 116, 33, 951, 952, 953, 954, 955, 956, 957, 958, 979, 980, 981, 982, 983, 984, 985, 986, 987, 988, 989, 990, 991, 992, 993, 994, 995, 996, 997] (by decide +kernel) (by decide +kernel)
set_option maxRecDepth 20000 in
theorem gL_law_X5_count : GoodIn wsL_law (wsV RL 157 RX5 yX5_count wsX5_count) := goodIn_app (goodIn_of _ (by decide +kernel)) ggL_law_X5_count
set_option maxRecDepth 20000 in
theorem ggL_law_X6_count : GoodIn wsL_law wsX6_count := goodIn_r _ [938, 87, 580, 121, 216, 217, 218, 5, 219, 153, 154, 155, 156, 939, 940, 941, 942, 145, 146, 147, 148, 132, 133, 134, 135, 88, 959, 960, 961, 962, 963, 964, 965, 966, 967, 968, 969, 970, 971, 972, 973, 974, 975, 976, 977, 978] (by decide +kernel) (by decide +kernel)
set_option maxRecDepth 20000 in
theorem gL_law_X6_count : GoodIn wsL_law (wsV RL 160 RX6 yX6_count wsX6_count) := goodIn_app (goodIn_of _ (by decide +kernel)) ggL_law_X6_count
set_option maxRecDepth 20000 in
theorem ggL_law_X5_status : GoodIn wsL_law wsX5_status := goodIn_r _ [946, 103, 33, 110, 111, 2, 112, 113, 114, 115, 116, 951, 952, 953, 954, 955, 956, 957, 958] (by decide +kernel) (by decide +kernel)
set_option maxRecDepth 20000 in
theorem gL_law_X5_status : GoodIn wsL_law (wsV RL 161 RX5 yX5_status wsX5_status) := goodIn_app (goodIn_of _ (by decide +kernel)) ggL_law_X5_status
set_option maxRecDepth 20000 in
theorem ggL_law_X6_status : GoodIn wsL_law wsX6_status := goodIn_r _ [950, 121, 88, 125, 126, 5, 127, 132, 133, 134, 135, 959, 960, 961, 962, 963, 964, 965, 966, 967, 968, 969, 970, 971, 972, 973, 974, 975, 976, 977, 978] (by decide +kernel) (by decide +kernel)
set_option maxRecDepth 20000 in
theorem gL_law_X6_status : GoodIn wsL_law (wsV RL 164 RX6 yX6_status wsX6_status) := goodIn_app (goodIn_of _ (by decide +kernel)) ggL_law_X6_status
