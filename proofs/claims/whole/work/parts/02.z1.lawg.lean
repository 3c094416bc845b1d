set_option maxRecDepth 20000 in
theorem ggL_law_X5_init : GoodIn wsL_law wsX5_init := goodIn_r _ [9, 10, 11, 12, 13, 14, 15, 16, 17, 18, 19, 20, 21, 22, 23, 24, 25, 26, 27, 28, 29, 30, 31, 32, 33, 34, 35, 36, 37, 38, 39, 40, 41, 42, 43, 44, 45, 46, 47, 48, 49, 50, 51, 52, 53, 54, 55, 56, 57, 58, 59, 60, 61, 62, 63, 64, 65, 66, 67, 68, 69, 70, 71, 72, 951, 952, 953, 954, 955, 956, 957, 958, 959, 960, 961, 962, 963, 924, 925, 926, 927, 928, 929, 930, 964, 965, 966, 967, 968, 969, 970, 971, 972] (by decide +kernel) (by decide +kernel)
set_option maxRecDepth 20000 in
theorem gL_law_X5_init : GoodIn wsL_law (wsX5_init) := ggL_law_X5_init
set_option maxRecDepth 20000 in
theorem ggL_law_X6_init : GoodIn wsL_law wsX6_init := goodIn_r _ [75, 76, 11, 12, 28, 77, 78, 79, 80, 81, 82, 83, 84, 71, 85, 86, 87, 88, 931, 932, 933, 934, 935, 936, 937, 938, 939, 940, 941, 942, 943, 944, 945, 946, 947, 948, 949, 950] (by decide +kernel) (by decide +kernel)
set_option maxRecDepth 20000 in
theorem gL_law_X6_init : GoodIn wsL_law (wsX6_init) := ggL_law_X6_init
set_option maxRecDepth 20000 in
theorem ggL_law_X5_lay : GoodIn wsL_law wsX5_lay := goodIn_r _ [92, 93, 16, 94, 95, 96, 97, 98, 2, 99, 100, 101, 102, 103, 104, 105, 106, 29, 924, 925, 926, 927, 928, 929, 930, 951, 952, 953, 954, 955, 956, 957, 958, 959, 960, 961, 962, 963] (by decide +kernel) (by decide +kernel)
set_option maxRecDepth 20000 in
theorem gL_law_X5_lay : GoodIn wsL_law (wsV RL 13 RX5 yX5_lay wsX5_lay) := goodIn_app (goodIn_of _ (by decide +kernel)) ggL_law_X5_lay
set_option maxRecDepth 20000 in
theorem ggL_law_X6_lay : GoodIn wsL_law wsX6_lay := goodIn_r _ [110, 111, 112, 113, 5, 114, 115, 116, 117, 118, 119, 120, 121, 77, 122, 123, 124, 125, 78, 931, 932, 933, 934, 935, 936, 937, 938, 939, 940, 941, 942, 943, 944, 945, 946, 947, 948, 949, 950] (by decide +kernel) (by decide +kernel)
set_option maxRecDepth 20000 in
theorem gL_law_X6_lay : GoodIn wsL_law (wsV RL 17 RX6 yX6_lay wsX6_lay) := goodIn_app (goodIn_of _ (by decide +kernel)) ggL_law_X6_lay
set_option maxRecDepth 20000 in
theorem ggL_law_X5_place : GoodIn wsL_law wsX5_place := goodIn_r _ [129, 93, 16, 94, 95, 96, 130, 97, 98, 2, 99, 103, 104, 105, 106, 29, 924, 925, 926, 927, 928, 929, 930, 951, 952, 953, 954, 955, 956, 957, 958, 959, 960, 961, 962, 963] (by decide +kernel) (by decide +kernel)
set_option maxRecDepth 20000 in
theorem gL_law_X5_place : GoodIn wsL_law (wsV RL 18 RX5 yX5_place wsX5_place) := goodIn_app (goodIn_of _ (by decide +kernel)) ggL_law_X5_place
set_option maxRecDepth 20000 in
theorem ggL_law_X6_place : GoodIn wsL_law wsX6_place := goodIn_r _ [134, 111, 112, 113, 5, 114, 115, 116, 117, 122, 123, 124, 125, 78, 135, 136, 137, 138, 77, 139, 140, 141, 142, 143, 144, 145, 146, 931, 932, 933, 934, 935, 936, 937, 938, 939, 940, 941, 942, 943, 944, 945, 946, 947, 948, 949, 950] (by decide +kernel) (by decide +kernel)
set_option maxRecDepth 20000 in
theorem gL_law_X6_place : GoodIn wsL_law (wsV RL 22 RX6 yX6_place wsX6_place) := goodIn_app (goodIn_of _ (by decide +kernel)) ggL_law_X6_place
set_option maxRecDepth 20000 in
theorem ggL_law_X5_now : GoodIn wsL_law wsX5_now := goodIn_r _ [150, 16, 151, 93, 152, 153, 154, 15, 155, 39, 42, 40, 156, 157, 158, 159, 160, 161, 162, 163, 164, 165, 166, 167, 37, 41, 168, 169, 170, 171, 172, 173, 174, 175, 176, 177, 178, 179, 180, 181, 43, 103, 104, 105, 2, 106, 29, 924, 925, 926, 927, 928, 929, 930, 951, 952, 953, 954, 955, 956, 957, 958, 959, 960, 961, 962, 963] (by decide +kernel) (by decide +kernel)
set_option maxRecDepth 20000 in
theorem gL_law_X5_now : GoodIn wsL_law (wsV RL 23 RX5 yX5_now wsX5_now) := goodIn_app (goodIn_of _ (by decide +kernel)) ggL_law_X5_now
set_option maxRecDepth 20000 in
theorem ggL_law_X6_now : GoodIn wsL_law wsX6_now := goodIn_r _ [185, 77, 111, 186, 187, 188, 5, 189, 190, 191, 192, 193, 143, 144, 145, 146, 194, 195, 196, 197, 198, 199, 200, 201, 202, 203, 204, 205, 135, 136, 137, 138, 206, 207, 208, 209, 122, 123, 124, 125, 78, 931, 932, 933, 934, 935, 936, 937, 938, 939, 940, 941, 942, 943, 944, 945, 946, 947, 948, 949, 950] (by decide +kernel) (by decide +kernel)
set_option maxRecDepth 20000 in
theorem gL_law_X6_now : GoodIn wsL_law (wsV RL 27 RX6 yX6_now wsX6_now) := goodIn_app (goodIn_of _ (by decide +kernel)) ggL_law_X6_now
set_option maxRecDepth 20000 in
theorem ggL_law_X5_guest : GoodIn wsL_law wsX5_guest := goodIn_r _ [213, 93, 16, 214, 215, 130, 216, 217, 218, 2, 219, 97, 98, 99, 103, 104, 105, 106, 29, 220, 221, 222, 15, 223, 39, 40, 41, 42, 43, 44, 38, 924, 925, 926, 927, 928, 929, 930, 951, 952, 953, 954, 955, 956, 957, 958, 959, 960, 961, 962, 963] (by decide +kernel) (by decide +kernel)
set_option maxRecDepth 20000 in
theorem gL_law_X5_guest : GoodIn wsL_law (wsV RL 28 RX5 yX5_guest wsX5_guest) := goodIn_app (goodIn_of _ (by decide +kernel)) ggL_law_X5_guest
set_option maxRecDepth 20000 in
theorem ggL_law_X6_guest : GoodIn wsL_law wsX6_guest := goodIn_r _ [227, 111, 77, 228, 229, 230, 231, 5, 232, 115, 116, 117, 112, 113, 114, 122, 123, 124, 125, 78, 139, 140, 141, 142, 143, 144, 145, 146, 233, 234, 235, 236, 237, 238, 239, 240, 931, 932, 933, 934, 935, 936, 937, 938, 939, 940, 941, 942, 943, 944, 945, 946, 947, 948, 949, 950] (by decide +kernel) (by decide +kernel)
set_option maxRecDepth 20000 in
theorem gL_law_X6_guest : GoodIn wsL_law (wsV RL 31 RX6 yX6_guest wsX6_guest) := goodIn_app (goodIn_of _ (by decide +kernel)) ggL_law_X6_guest
set_option maxRecDepth 20000 in
theorem ggL_law_X5_of : GoodIn wsL_law wsX5_of := goodIn_r _ [244, 16, 93, 245, 246, 247, 248, 249, 250, 251, 252, 15, 253, 39, 103, 104, 105, 2, 106, 29, 254, 255, 256, 257, 41, 40, 35, 36, 37, 258, 259, 260, 261, 38, 262, 263, 264, 265, 266, 267, 268, 269, 270, 271, 272, 273, 274, 275, 276, 277, 278, 279, 158, 280, 281, 282, 283, 284, 285, 286, 287, 288, 289, 290, 291, 292, 157, 159, 293, 924, 925, 926, 927, 928, 929, 930, 951, 952, 953, 954, 955, 956, 957, 958, 959, 960, 961, 962, 963] (by decide +kernel) (by decide +kernel)
set_option maxRecDepth 20000 in
theorem gL_law_X5_of : GoodIn wsL_law (wsV RL 32 RX5 yX5_of wsX5_of) := goodIn_app (goodIn_of _ (by decide +kernel)) ggL_law_X5_of
set_option maxRecDepth 20000 in
theorem ggL_law_X6_of : GoodIn wsL_law wsX6_of := goodIn_r _ [297, 111, 298, 299, 300, 5, 301, 77, 115, 116, 117, 122, 123, 124, 125, 78, 143, 144, 145, 146, 302, 303, 304, 305, 135, 136, 137, 138, 306, 307, 308, 309, 310, 311, 312, 313, 139, 140, 141, 142, 314, 315, 316, 317, 318, 319, 320, 321, 194, 195, 196, 197, 322, 323, 324, 325, 931, 932, 933, 934, 935, 936, 937, 938, 939, 940, 941, 942, 943, 944, 945, 946, 947, 948, 949, 950] (by decide +kernel) (by decide +kernel)
set_option maxRecDepth 20000 in
theorem gL_law_X6_of : GoodIn wsL_law (wsV RL 35 RX6 yX6_of wsX6_of) := goodIn_app (goodIn_of _ (by decide +kernel)) ggL_law_X6_of
set_option maxRecDepth 20000 in
theorem ggL_law_X5_set : GoodIn wsL_law wsX5_set := goodIn_r _ [329, 16, 93, 247, 248, 249, 250, 251, 252, 15, 253, 39, 103, 104, 105, 2, 106, 29, 100, 101, 102, 924, 925, 926, 927, 928, 929, 930, 951, 952, 953, 954, 955, 956, 957, 958, 959, 960, 961, 962, 963] (by decide +kernel) (by decide +kernel)
set_option maxRecDepth 20000 in
theorem gL_law_X5_set : GoodIn wsL_law (wsV RL 36 RX5 yX5_set wsX5_set) := goodIn_app (goodIn_of _ (by decide +kernel)) ggL_law_X5_set
set_option maxRecDepth 20000 in
theorem ggL_law_X6_set : GoodIn wsL_law wsX6_set := goodIn_r _ [333, 111, 298, 299, 300, 5, 301, 77, 115, 116, 117, 334, 335, 336, 118, 119, 120, 121, 122, 123, 124, 125, 78, 931, 932, 933, 934, 935, 936, 937, 938, 939, 940, 941, 942, 943, 944, 945, 946, 947, 948, 949, 950] (by decide +kernel) (by decide +kernel)
set_option maxRecDepth 20000 in
theorem gL_law_X6_set : GoodIn wsL_law (wsV RL 39 RX6 yX6_set wsX6_set) := goodIn_app (goodIn_of _ (by decide +kernel)) ggL_law_X6_set
set_option maxRecDepth 20000 in
theorem ggL_law_X5_seat : GoodIn wsL_law wsX5_seat := goodIn_r _ [340, 16, 93, 216, 246, 250, 251, 252, 15, 253, 39, 97, 98, 2, 99, 103, 104, 105, 106, 29, 341, 342, 343, 344, 38, 345, 346, 347, 348, 41, 924, 925, 926, 927, 928, 929, 930, 951, 952, 953, 954, 955, 956, 957, 958, 959, 960, 961, 962, 963] (by decide +kernel) (by decide +kernel)
set_option maxRecDepth 20000 in
theorem gL_law_X5_seat : GoodIn wsL_law (wsV RL 40 RX5 yX5_seat wsX5_seat) := goodIn_app (goodIn_of _ (by decide +kernel)) ggL_law_X5_seat
set_option maxRecDepth 20000 in
theorem ggL_law_X6_seat : GoodIn wsL_law wsX6_seat := goodIn_r _ [352, 111, 229, 298, 299, 300, 5, 301, 77, 115, 116, 117, 112, 113, 114, 122, 123, 124, 125, 78, 139, 140, 141, 142, 143, 144, 145, 146, 118, 119, 120, 121, 931, 932, 933, 934, 935, 936, 937, 938, 939, 940, 941, 942, 943, 944, 945, 946, 947, 948, 949, 950] (by decide +kernel) (by decide +kernel)
set_option maxRecDepth 20000 in
theorem gL_law_X6_seat : GoodIn wsL_law (wsV RL 43 RX6 yX6_seat wsX6_seat) := goodIn_app (goodIn_of _ (by decide +kernel)) ggL_law_X6_seat
set_option maxRecDepth 20000 in
theorem ggL_law_X5_swap : GoodIn wsL_law wsX5_swap := goodIn_r _ [356, 16, 93, 250, 251, 252, 15, 253, 39, 103, 104, 105, 2, 106, 29, 357, 358, 359, 360, 41, 38, 924, 925, 926, 927, 928, 929, 930, 951, 952, 953, 954, 955, 956, 957, 958, 959, 960, 961, 962, 963] (by decide +kernel) (by decide +kernel)
set_option maxRecDepth 20000 in
theorem gL_law_X5_swap : GoodIn wsL_law (wsV RL 44 RX5 yX5_swap wsX5_swap) := goodIn_app (goodIn_of _ (by decide +kernel)) ggL_law_X5_swap
set_option maxRecDepth 20000 in
theorem ggL_law_X6_swap : GoodIn wsL_law wsX6_swap := goodIn_r _ [364, 111, 298, 299, 300, 5, 301, 77, 115, 116, 117, 122, 123, 124, 125, 78, 365, 366, 367, 368, 143, 144, 145, 146, 237, 238, 239, 240, 931, 932, 933, 934, 935, 936, 937, 938, 939, 940, 941, 942, 943, 944, 945, 946, 947, 948, 949, 950] (by decide +kernel) (by decide +kernel)
set_option maxRecDepth 20000 in
theorem gL_law_X6_swap : GoodIn wsL_law (wsV RL 47 RX6 yX6_swap wsX6_swap) := goodIn_app (goodIn_of _ (by decide +kernel)) ggL_law_X6_swap
set_option maxRecDepth 20000 in
theorem ggL_law_X5_turn : GoodIn wsL_law wsX5_turn := goodIn_r _ [372, 16, 93, 245, 250, 251, 252, 15, 253, 39, 217, 218, 2, 219, 103, 104, 105, 106, 29, 924, 925, 926, 927, 928, 929, 930, 951, 952, 953, 954, 955, 956, 957, 958, 959, 960, 961, 962, 963] (by decide +kernel) (by decide +kernel)
set_option maxRecDepth 20000 in
theorem gL_law_X5_turn : GoodIn wsL_law (wsV RL 48 RX5 yX5_turn wsX5_turn) := goodIn_app (goodIn_of _ (by decide +kernel)) ggL_law_X5_turn
set_option maxRecDepth 20000 in
theorem ggL_law_X6_turn : GoodIn wsL_law wsX6_turn := goodIn_r _ [376, 111, 298, 299, 300, 5, 301, 77, 115, 116, 117, 230, 231, 232, 118, 119, 120, 121, 122, 123, 124, 125, 78, 931, 932, 933, 934, 935, 936, 937, 938, 939, 940, 941, 942, 943, 944, 945, 946, 947, 948, 949, 950] (by decide +kernel) (by decide +kernel)
set_option maxRecDepth 20000 in
theorem gL_law_X6_turn : GoodIn wsL_law (wsV RL 51 RX6 yX6_turn wsX6_turn) := goodIn_app (goodIn_of _ (by decide +kernel)) ggL_law_X6_turn
set_option maxRecDepth 20000 in
theorem ggL_law_X5_as : GoodIn wsL_law wsX5_as := goodIn_r _ [380, 16, 93, 245, 381, 247, 250, 251, 252, 15, 253, 39, 217, 218, 2, 219, 103, 104, 105, 106, 29, 382, 383, 158, 384, 385, 386, 387, 924, 925, 926, 927, 928, 929, 930, 951, 952, 953, 954, 955, 956, 957, 958, 959, 960, 961, 962, 963] (by decide +kernel) (by decide +kernel)
set_option maxRecDepth 20000 in
theorem gL_law_X5_as : GoodIn wsL_law (wsV RL 52 RX5 yX5_as wsX5_as) := goodIn_app (goodIn_of _ (by decide +kernel)) ggL_law_X5_as
set_option maxRecDepth 20000 in
theorem ggL_law_X6_as : GoodIn wsL_law wsX6_as := goodIn_r _ [391, 111, 392, 298, 299, 300, 5, 301, 77, 115, 116, 117, 230, 231, 232, 122, 123, 124, 125, 78, 143, 144, 145, 146, 931, 932, 933, 934, 935, 936, 937, 938, 939, 940, 941, 942, 943, 944, 945, 946, 947, 948, 949, 950] (by decide +kernel) (by decide +kernel)
set_option maxRecDepth 20000 in
theorem gL_law_X6_as : GoodIn wsL_law (wsV RL 55 RX6 yX6_as wsX6_as) := goodIn_app (goodIn_of _ (by decide +kernel)) ggL_law_X6_as
set_option maxRecDepth 20000 in
theorem ggL_law_X5_courses : GoodIn wsL_law wsX5_courses := goodIn_r _ [396, 93, 16, 151, 397, 216, 100, 101, 2, 102, 103, 104, 105, 106, 29, 398, 399, 400, 15, 401, 402, 403, 404, 405, 39, 45, 46, 406, 255, 256, 257, 41, 40, 35, 36, 37, 258, 259, 260, 261, 38, 262, 263, 264, 265, 266, 267, 268, 269, 270, 271, 272, 273, 274, 275, 276, 277, 278, 279, 158, 280, 407, 282, 283, 284, 285, 286, 287, 288, 289, 290, 291, 408, 409, 410, 411, 42, 412, 413, 414, 415, 416, 417, 418, 43, 44, 34, 419, 161, 162, 163, 164, 165, 166, 167, 168, 169, 170, 420, 153, 154, 155, 156, 157, 159, 152, 924, 925, 926, 927, 928, 929, 930, 951, 952, 953, 954, 955, 956, 957, 958, 959, 960, 961, 962, 963] (by decide +kernel) (by decide +kernel)
set_option maxRecDepth 20000 in
theorem gL_law_X5_courses : GoodIn wsL_law (wsV RL 56 RX5 yX5_courses wsX5_courses) := goodIn_app (goodIn_of _ (by decide +kernel)) ggL_law_X5_courses
set_option maxRecDepth 20000 in
theorem ggL_law_X6_courses : GoodIn wsL_law wsX6_courses := goodIn_r _ [424, 111, 77, 425, 229, 115, 116, 5, 117, 122, 123, 124, 125, 78, 426, 427, 428, 429, 430, 431, 432, 433, 79, 198, 199, 200, 201, 202, 203, 204, 205, 143, 144, 145, 146, 135, 136, 137, 138, 302, 303, 304, 305, 306, 307, 308, 309, 310, 311, 312, 313, 139, 140, 141, 142, 314, 315, 316, 317, 318, 319, 320, 321, 434, 435, 436, 237, 238, 239, 240, 186, 187, 188, 189, 190, 191, 192, 193, 194, 195, 196, 197, 322, 323, 324, 325, 437, 438, 439, 931, 932, 933, 934, 935, 936, 937, 938, 939, 940, 941, 942, 943, 944, 945, 946, 947, 948, 949, 950] (by decide +kernel) (by decide +kernel)
set_option maxRecDepth 20000 in
theorem gL_law_X6_courses : GoodIn wsL_law (wsV RL 59 RX6 yX6_courses wsX6_courses) := goodIn_app (goodIn_of _ (by decide +kernel)) ggL_law_X6_courses
set_option maxRecDepth 20000 in
theorem ggL_law_X5_on : GoodIn wsL_law wsX5_on := goodIn_r _ [443, 16, 93, 17, 247, 248, 249, 250, 251, 252, 15, 253, 39, 100, 101, 2, 102, 103, 104, 105, 106, 29, 444, 445, 446, 447, 34, 35, 448, 449, 450, 451, 36, 37, 38, 40, 41, 42, 43, 44, 398, 399, 400, 401, 402, 403, 404, 405, 45, 46, 406, 255, 256, 257, 258, 259, 260, 261, 262, 263, 264, 265, 266, 267, 268, 269, 270, 271, 272, 273, 274, 275, 276, 277, 278, 279, 158, 280, 407, 282, 283, 284, 285, 286, 287, 288, 289, 290, 291, 408, 409, 410, 411, 412, 413, 414, 415, 416, 417, 418, 419, 161, 162, 163, 164, 165, 166, 167, 168, 169, 170, 420, 153, 154, 155, 156, 157, 159, 924, 925, 926, 927, 928, 929, 930, 951, 952, 953, 954, 955, 956, 957, 958, 959, 960, 961, 962, 963] (by decide +kernel) (by decide +kernel)
set_option maxRecDepth 20000 in
theorem gL_law_X5_on : GoodIn wsL_law (wsV RL 60 RX5 yX5_on wsX5_on) := goodIn_app (goodIn_of _ (by decide +kernel)) ggL_law_X5_on
set_option maxRecDepth 20000 in
theorem ggL_law_X6_on : GoodIn wsL_law wsX6_on := goodIn_r _ [455, 111, 80, 298, 299, 300, 5, 301, 77, 115, 116, 117, 122, 123, 124, 125, 78, 456, 457, 458, 459, 426, 427, 428, 429, 430, 431, 432, 433, 79, 198, 199, 200, 201, 202, 203, 204, 205, 143, 144, 145, 146, 135, 136, 137, 138, 302, 303, 304, 305, 306, 307, 308, 309, 310, 311, 312, 313, 139, 140, 141, 142, 314, 315, 316, 317, 318, 319, 320, 321, 434, 435, 436, 237, 238, 239, 240, 186, 187, 188, 189, 190, 191, 192, 193, 194, 195, 196, 197, 322, 323, 324, 325, 437, 438, 439, 931, 932, 933, 934, 935, 936, 937, 938, 939, 940, 941, 942, 943, 944, 945, 946, 947, 948, 949, 950] (by decide +kernel) (by decide +kernel)
set_option maxRecDepth 20000 in
theorem gL_law_X6_on : GoodIn wsL_law (wsV RL 63 RX6 yX6_on wsX6_on) := goodIn_app (goodIn_of _ (by decide +kernel)) ggL_law_X6_on
set_option maxRecDepth 20000 in
theorem ggL_law_X5_mood : GoodIn wsL_law wsX5_mood := goodIn_r _ [463, 93, 17, 16, 100, 101, 2, 102, 103, 104, 105, 106, 29, 444, 445, 446, 15, 447, 34, 35, 448, 449, 450, 451, 36, 37, 38, 39, 40, 41, 42, 43, 44, 398, 399, 400, 401, 402, 403, 404, 405, 45, 46, 406, 255, 256, 257, 258, 259, 260, 261, 262, 263, 264, 265, 266, 267, 268, 269, 270, 271, 272, 273, 274, 275, 276, 277, 278, 279, 158, 280, 407, 282, 283, 284, 285, 286, 287, 288, 289, 290, 291, 408, 409, 410, 411, 412, 413, 414, 415, 416, 417, 418, 419, 161, 162, 163, 164, 165, 166, 167, 168, 169, 170, 420, 153, 154, 155, 156, 157, 159, 171, 172, 173, 174, 175, 176, 177, 924, 925, 926, 927, 928, 929, 930, 951, 952, 953, 954, 955, 956, 957, 958, 959, 960, 961, 962, 963] (by decide +kernel) (by decide +kernel)
set_option maxRecDepth 20000 in
theorem gL_law_X5_mood : GoodIn wsL_law (wsV RL 64 RX5 yX5_mood wsX5_mood) := goodIn_app (goodIn_of _ (by decide +kernel)) ggL_law_X5_mood
set_option maxRecDepth 20000 in
theorem ggL_law_X6_mood : GoodIn wsL_law wsX6_mood := goodIn_r _ [467, 111, 80, 115, 116, 5, 117, 122, 123, 124, 125, 78, 456, 457, 458, 459, 77, 468, 469, 470, 471, 426, 427, 428, 429, 430, 431, 432, 433, 79, 198, 199, 200, 201, 202, 203, 204, 205, 143, 144, 145, 146, 135, 136, 137, 138, 302, 303, 304, 305, 306, 307, 308, 309, 310, 311, 312, 313, 139, 140, 141, 142, 314, 315, 316, 317, 318, 319, 320, 321, 434, 435, 436, 237, 238, 239, 240, 186, 187, 188, 189, 190, 191, 192, 193, 194, 195, 196, 197, 322, 323, 324, 325, 437, 438, 439, 206, 207, 208, 209, 931, 932, 933, 934, 935, 936, 937, 938, 939, 940, 941, 942, 943, 944, 945, 946, 947, 948, 949, 950] (by decide +kernel) (by decide +kernel)
set_option maxRecDepth 20000 in
theorem gL_law_X6_mood : GoodIn wsL_law (wsV RL 67 RX6 yX6_mood wsX6_mood) := goodIn_app (goodIn_of _ (by decide +kernel)) ggL_law_X6_mood
set_option maxRecDepth 20000 in
theorem ggL_law_X5_peace : GoodIn wsL_law wsX5_peace := goodIn_r _ [475, 17, 16, 476, 444, 445, 446, 15, 447, 34, 35, 448, 449, 450, 451, 36, 37, 38, 39, 40, 41, 42, 43, 44, 477, 403, 404, 405, 45, 46, 406, 255, 256, 257, 258, 259, 260, 261, 262, 263, 264, 265, 266, 267, 268, 269, 270, 271, 272, 273, 274, 275, 276, 277, 278, 279, 158, 280, 407, 282, 283, 284, 285, 286, 287, 288, 289, 290, 291, 152, 153, 154, 155, 156, 157, 159, 478, 409, 410, 411, 412, 413, 414, 415, 416, 417, 418, 419, 161, 162, 163, 164, 165, 166, 167, 168, 169, 170, 420, 103, 104, 105, 2, 106, 93, 29, 924, 925, 926, 927, 928, 929, 930, 951, 952, 953, 954, 955, 956, 957, 958, 959, 960, 961, 962, 963] (by decide +kernel) (by decide +kernel)
set_option maxRecDepth 20000 in
theorem gL_law_X5_peace : GoodIn wsL_law (wsV RL 68 RX5 yX5_peace wsX5_peace) := goodIn_app (goodIn_of _ (by decide +kernel)) ggL_law_X5_peace
set_option maxRecDepth 20000 in
theorem ggL_law_X6_peace : GoodIn wsL_law wsX6_peace := goodIn_r _ [482, 80, 483, 456, 457, 458, 5, 459, 77, 186, 187, 188, 189, 190, 191, 192, 193, 143, 144, 145, 146, 194, 195, 196, 197, 430, 431, 432, 433, 79, 198, 199, 200, 201, 202, 203, 204, 205, 135, 136, 137, 138, 302, 303, 304, 305, 306, 307, 308, 309, 310, 311, 312, 313, 139, 140, 141, 142, 314, 315, 316, 317, 318, 319, 320, 321, 434, 435, 436, 237, 238, 239, 240, 322, 323, 324, 325, 437, 438, 439, 122, 123, 124, 125, 78, 111, 931, 932, 933, 934, 935, 936, 937, 938, 939, 940, 941, 942, 943, 944, 945, 946, 947, 948, 949, 950] (by decide +kernel) (by decide +kernel)
set_option maxRecDepth 20000 in
theorem gL_law_X6_peace : GoodIn wsL_law (wsV RL 72 RX6 yX6_peace wsX6_peace) := goodIn_app (goodIn_of _ (by decide +kernel)) ggL_law_X6_peace
set_option maxRecDepth 20000 in
theorem ggL_law_X5_tells : GoodIn wsL_law wsX5_tells := goodIn_r _ [487, 16, 93, 17, 476, 250, 251, 252, 15, 253, 39, 103, 104, 105, 2, 106, 29, 444, 445, 446, 447, 34, 35, 448, 449, 450, 451, 36, 37, 38, 40, 41, 42, 43, 44, 477, 403, 404, 405, 45, 46, 406, 255, 256, 257, 258, 259, 260, 261, 262, 263, 264, 265, 266, 267, 268, 269, 270, 271, 272, 273, 274, 275, 276, 277, 278, 279, 158, 280, 407, 282, 283, 284, 285, 286, 287, 288, 289, 290, 291, 488, 165, 166, 167, 168, 169, 170, 478, 409, 410, 411, 412, 413, 414, 415, 416, 417, 418, 419, 161, 162, 163, 164, 420, 153, 154, 155, 156, 157, 159, 924, 925, 926, 927, 928, 929, 930, 951, 952, 953, 954, 955, 956, 957, 958, 959, 960, 961, 962, 963] (by decide +kernel) (by decide +kernel)
set_option maxRecDepth 20000 in
theorem gL_law_X5_tells : GoodIn wsL_law (wsV RL 73 RX5 yX5_tells wsX5_tells) := goodIn_app (goodIn_of _ (by decide +kernel)) ggL_law_X5_tells
set_option maxRecDepth 20000 in
theorem ggL_law_X6_tells : GoodIn wsL_law wsX6_tells := goodIn_r _ [492, 111, 80, 483, 298, 299, 300, 5, 301, 77, 115, 116, 117, 122, 123, 124, 125, 78, 456, 457, 458, 459, 202, 203, 204, 205, 143, 144, 145, 146, 135, 136, 137, 138, 430, 431, 432, 433, 79, 198, 199, 200, 201, 302, 303, 304, 305, 306, 307, 308, 309, 310, 311, 312, 313, 139, 140, 141, 142, 314, 315, 316, 317, 318, 319, 320, 321, 434, 435, 436, 237, 238, 239, 240, 186, 187, 188, 189, 190, 191, 192, 193, 194, 195, 196, 197, 322, 323, 324, 325, 437, 438, 439, 931, 932, 933, 934, 935, 936, 937, 938, 939, 940, 941, 942, 943, 944, 945, 946, 947, 948, 949, 950] (by decide +kernel) (by decide +kernel)
set_option maxRecDepth 20000 in
theorem gL_law_X6_tells : GoodIn wsL_law (wsV RL 76 RX6 yX6_tells wsX6_tells) := goodIn_app (goodIn_of _ (by decide +kernel)) ggL_law_X6_tells
set_option maxRecDepth 20000 in
theorem ggL_law_X5_quarrels : GoodIn wsL_law wsX5_quarrels := goodIn_r _ [496, 16, 93, 17, 249, 476, 250, 251, 252, 15, 253, 39, 103, 104, 105, 2, 106, 29, 444, 445, 446, 447, 34, 35, 448, 449, 450, 451, 36, 37, 38, 40, 41, 42, 43, 44, 477, 403, 404, 405, 45, 46, 406, 255, 256, 257, 258, 259, 260, 261, 262, 263, 264, 265, 266, 267, 268, 269, 270, 271, 272, 273, 274, 275, 276, 277, 278, 279, 158, 280, 407, 282, 283, 284, 285, 286, 287, 288, 289, 290, 291, 478, 409, 410, 411, 412, 413, 414, 415, 416, 417, 418, 419, 161, 162, 163, 164, 165, 166, 167, 168, 169, 170, 420, 153, 154, 155, 156, 157, 159, 924, 925, 926, 927, 928, 929, 930, 951, 952, 953, 954, 955, 956, 957, 958, 959, 960, 961, 962, 963] (by decide +kernel) (by decide +kernel)
set_option maxRecDepth 20000 in
theorem gL_law_X5_quarrels : GoodIn wsL_law (wsV RL 77 RX5 yX5_quarrels wsX5_quarrels) := goodIn_app (goodIn_of _ (by decide +kernel)) ggL_law_X5_quarrels
set_option maxRecDepth 20000 in
theorem ggL_law_X6_quarrels : GoodIn wsL_law wsX6_quarrels := goodIn_r _ [500, 111, 80, 483, 298, 299, 300, 5, 301, 77, 115, 116, 117, 122, 123, 124, 125, 78, 456, 457, 458, 459, 143, 144, 145, 146, 430, 431, 432, 433, 79, 198, 199, 200, 201, 202, 203, 204, 205, 135, 136, 137, 138, 302, 303, 304, 305, 306, 307, 308, 309, 310, 311, 312, 313, 139, 140, 141, 142, 314, 315, 316, 317, 318, 319, 320, 321, 434, 435, 436, 237, 238, 239, 240, 186, 187, 188, 189, 190, 191, 192, 193, 194, 195, 196, 197, 322, 323, 324, 325, 437, 438, 439, 931, 932, 933, 934, 935, 936, 937, 938, 939, 940, 941, 942, 943, 944, 945, 946, 947, 948, 949, 950] (by decide +kernel) (by decide +kernel)
set_option maxRecDepth 20000 in
theorem gL_law_X6_quarrels : GoodIn wsL_law (wsV RL 80 RX6 yX6_quarrels wsX6_quarrels) := goodIn_app (goodIn_of _ (by decide +kernel)) ggL_law_X6_quarrels
set_option maxRecDepth 20000 in
theorem ggL_law_X5_best : GoodIn wsL_law wsX5_best := goodIn_r _ [504, 16, 93, 246, 17, 247, 250, 251, 252, 15, 253, 39, 100, 101, 2, 102, 103, 104, 105, 106, 29, 341, 342, 343, 344, 38, 444, 445, 446, 447, 34, 35, 448, 449, 450, 451, 36, 37, 40, 41, 42, 43, 44, 345, 346, 347, 348, 398, 399, 400, 401, 402, 403, 404, 405, 45, 46, 406, 255, 256, 257, 258, 259, 260, 261, 262, 263, 264, 265, 266, 267, 268, 269, 270, 271, 272, 273, 274, 275, 276, 277, 278, 279, 158, 280, 407, 282, 283, 284, 285, 286, 287, 288, 289, 290, 291, 408, 409, 410, 411, 412, 413, 414, 415, 416, 417, 418, 419, 161, 162, 163, 164, 165, 166, 167, 168, 169, 170, 420, 153, 154, 155, 156, 157, 159, 924, 925, 926, 927, 928, 929, 930, 951, 952, 953, 954, 955, 956, 957, 958, 959, 960, 961, 962, 963] (by decide +kernel) (by decide +kernel)
set_option maxRecDepth 20000 in
theorem gL_law_X5_best : GoodIn wsL_law (wsV RL 81 RX5 yX5_best wsX5_best) := goodIn_app (goodIn_of _ (by decide +kernel)) ggL_law_X5_best
set_option maxRecDepth 20000 in
theorem ggL_law_X6_best : GoodIn wsL_law wsX6_best := goodIn_r _ [508, 111, 80, 298, 299, 300, 5, 301, 77, 115, 116, 117, 122, 123, 124, 125, 78, 456, 457, 458, 459, 139, 140, 141, 142, 143, 144, 145, 146, 237, 238, 239, 240, 509, 510, 511, 512, 426, 427, 428, 429, 430, 431, 432, 433, 79, 198, 199, 200, 201, 202, 203, 204, 205, 135, 136, 137, 138, 302, 303, 304, 305, 306, 307, 308, 309, 310, 311, 312, 313, 314, 315, 316, 317, 318, 319, 320, 321, 434, 435, 436, 186, 187, 188, 189, 190, 191, 192, 193, 194, 195, 196, 197, 322, 323, 324, 325, 437, 438, 439, 931, 932, 933, 934, 935, 936, 937, 938, 939, 940, 941, 942, 943, 944, 945, 946, 947, 948, 949, 950] (by decide +kernel) (by decide +kernel)
set_option maxRecDepth 20000 in
theorem gL_law_X6_best : GoodIn wsL_law (wsV RL 84 RX6 yX6_best wsX6_best) := goodIn_app (goodIn_of _ (by decide +kernel)) ggL_law_X6_best
set_option maxRecDepth 20000 in
theorem ggL_law_X5_laid : GoodIn wsL_law wsX5_laid := goodIn_r _ [516, 93, 17, 16, 94, 95, 97, 98, 2, 99, 100, 101, 102, 103, 104, 105, 106, 29, 444, 445, 446, 15, 447, 34, 35, 448, 449, 450, 451, 36, 37, 38, 39, 40, 41, 42, 43, 44, 398, 399, 400, 401, 402, 403, 404, 405, 45, 46, 406, 255, 256, 257, 258, 259, 260, 261, 262, 263, 264, 265, 266, 267, 268, 269, 270, 271, 272, 273, 274, 275, 276, 277, 278, 279, 158, 280, 407, 282, 283, 284, 285, 286, 287, 288, 289, 290, 291, 408, 409, 410, 411, 412, 413, 414, 415, 416, 417, 418, 419, 161, 162, 163, 164, 165, 166, 167, 168, 169, 170, 420, 153, 154, 155, 156, 157, 159, 171, 172, 173, 174, 175, 176, 177, 924, 925, 926, 927, 928, 929, 930, 951, 952, 953, 954, 955, 956, 957, 958, 959, 960, 961, 962, 963] (by decide +kernel) (by decide +kernel)
set_option maxRecDepth 20000 in
theorem gL_law_X5_laid : GoodIn wsL_law (wsV RL 85 RX5 yX5_laid wsX5_laid) := goodIn_app (goodIn_of _ (by decide +kernel)) ggL_law_X5_laid
set_option maxRecDepth 20000 in
theorem ggL_law_X6_laid : GoodIn wsL_law wsX6_laid := goodIn_r _ [520, 111, 80, 77, 112, 113, 5, 114, 115, 116, 117, 122, 123, 124, 125, 78, 456, 457, 458, 459, 468, 469, 470, 471, 426, 427, 428, 429, 430, 431, 432, 433, 79, 198, 199, 200, 201, 202, 203, 204, 205, 143, 144, 145, 146, 135, 136, 137, 138, 302, 303, 304, 305, 306, 307, 308, 309, 310, 311, 312, 313, 139, 140, 141, 142, 314, 315, 316, 317, 318, 319, 320, 321, 434, 435, 436, 237, 238, 239, 240, 186, 187, 188, 189, 190, 191, 192, 193, 194, 195, 196, 197, 322, 323, 324, 325, 437, 438, 439, 206, 207, 208, 209, 931, 932, 933, 934, 935, 936, 937, 938, 939, 940, 941, 942, 943, 944, 945, 946, 947, 948, 949, 950] (by decide +kernel) (by decide +kernel)
set_option maxRecDepth 20000 in
theorem gL_law_X6_laid : GoodIn wsL_law (wsV RL 88 RX6 yX6_laid wsX6_laid) := goodIn_app (goodIn_of _ (by decide +kernel)) ggL_law_X6_laid
set_option maxRecDepth 20000 in
theorem ggL_law_X5_knife : GoodIn wsL_law wsX5_knife := goodIn_r _ [524, 93, 17, 16, 94, 100, 101, 2, 102, 103, 104, 105, 106, 29, 444, 445, 446, 15, 447, 34, 35, 448, 449, 450, 451, 36, 37, 38, 39, 40, 41, 42, 43, 44, 398, 399, 400, 401, 402, 403, 404, 405, 45, 46, 406, 255, 256, 257, 258, 259, 260, 261, 262, 263, 264, 265, 266, 267, 268, 269, 270, 271, 272, 273, 274, 275, 276, 277, 278, 279, 158, 280, 407, 282, 283, 284, 285, 286, 287, 288, 289, 290, 291, 408, 409, 410, 411, 412, 413, 414, 415, 416, 417, 418, 419, 161, 162, 163, 164, 165, 166, 167, 168, 169, 170, 420, 153, 154, 155, 156, 157, 159, 171, 172, 173, 174, 175, 176, 177, 924, 925, 926, 927, 928, 929, 930, 951, 952, 953, 954, 955, 956, 957, 958, 959, 960, 961, 962, 963] (by decide +kernel) (by decide +kernel)
set_option maxRecDepth 20000 in
theorem gL_law_X5_knife : GoodIn wsL_law (wsV RL 89 RX5 yX5_knife wsX5_knife) := goodIn_app (goodIn_of _ (by decide +kernel)) ggL_law_X5_knife
set_option maxRecDepth 20000 in
theorem ggL_law_X6_knife : GoodIn wsL_law wsX6_knife := goodIn_r _ [528, 111, 80, 77, 115, 116, 5, 117, 122, 123, 124, 125, 78, 456, 457, 458, 459, 135, 136, 137, 138, 468, 469, 470, 471, 426, 427, 428, 429, 430, 431, 432, 433, 79, 198, 199, 200, 201, 202, 203, 204, 205, 143, 144, 145, 146, 302, 303, 304, 305, 306, 307, 308, 309, 310, 311, 312, 313, 139, 140, 141, 142, 314, 315, 316, 317, 318, 319, 320, 321, 434, 435, 436, 237, 238, 239, 240, 186, 187, 188, 189, 190, 191, 192, 193, 194, 195, 196, 197, 322, 323, 324, 325, 437, 438, 439, 206, 207, 208, 209, 931, 932, 933, 934, 935, 936, 937, 938, 939, 940, 941, 942, 943, 944, 945, 946, 947, 948, 949, 950] (by decide +kernel) (by decide +kernel)
set_option maxRecDepth 20000 in
theorem gL_law_X6_knife : GoodIn wsL_law (wsV RL 92 RX6 yX6_knife wsX6_knife) := goodIn_app (goodIn_of _ (by decide +kernel)) ggL_law_X6_knife
set_option maxRecDepth 20000 in
theorem ggL_law_X5_kind : GoodIn wsL_law wsX5_kind := goodIn_r _ [532, 16, 93, 17, 245, 247, 250, 251, 252, 15, 253, 39, 100, 101, 2, 102, 103, 104, 105, 106, 29, 444, 445, 446, 447, 34, 35, 448, 449, 450, 451, 36, 37, 38, 40, 41, 42, 43, 44, 398, 399, 400, 401, 402, 403, 404, 405, 45, 46, 406, 255, 256, 257, 258, 259, 260, 261, 262, 263, 264, 265, 266, 267, 268, 269, 270, 271, 272, 273, 274, 275, 276, 277, 278, 279, 158, 280, 407, 282, 283, 284, 285, 286, 287, 288, 289, 290, 291, 408, 409, 410, 411, 412, 413, 414, 415, 416, 417, 418, 419, 161, 162, 163, 164, 165, 166, 167, 168, 169, 170, 420, 153, 154, 155, 156, 157, 159, 924, 925, 926, 927, 928, 929, 930, 951, 952, 953, 954, 955, 956, 957, 958, 959, 960, 961, 962, 963] (by decide +kernel) (by decide +kernel)
set_option maxRecDepth 20000 in
theorem gL_law_X5_kind : GoodIn wsL_law (wsV RL 93 RX5 yX5_kind wsX5_kind) := goodIn_app (goodIn_of _ (by decide +kernel)) ggL_law_X5_kind
set_option maxRecDepth 20000 in
theorem ggL_law_X6_kind : GoodIn wsL_law wsX6_kind := goodIn_r _ [536, 111, 80, 298, 299, 300, 5, 301, 77, 115, 116, 117, 122, 123, 124, 125, 78, 456, 457, 458, 459, 237, 238, 239, 240, 509, 510, 511, 512, 426, 427, 428, 429, 430, 431, 432, 433, 79, 198, 199, 200, 201, 202, 203, 204, 205, 143, 144, 145, 146, 135, 136, 137, 138, 302, 303, 304, 305, 306, 307, 308, 309, 310, 311, 312, 313, 139, 140, 141, 142, 314, 315, 316, 317, 318, 319, 320, 321, 434, 435, 436, 186, 187, 188, 189, 190, 191, 192, 193, 194, 195, 196, 197, 322, 323, 324, 325, 437, 438, 439, 931, 932, 933, 934, 935, 936, 937, 938, 939, 940, 941, 942, 943, 944, 945, 946, 947, 948, 949, 950] (by decide +kernel) (by decide +kernel)
set_option maxRecDepth 20000 in
theorem gL_law_X6_kind : GoodIn wsL_law (wsV RL 96 RX6 yX6_kind wsX6_kind) := goodIn_app (goodIn_of _ (by decide +kernel)) ggL_law_X6_kind
set_option maxRecDepth 20000 in
theorem ggL_law_X5_spoon : GoodIn wsL_law wsX5_spoon := goodIn_r _ [540, 93, 17, 16, 96, 476, 97, 98, 2, 99, 100, 101, 102, 103, 104, 105, 106, 29, 444, 445, 446, 15, 447, 34, 35, 448, 449, 450, 451, 36, 37, 38, 39, 40, 41, 42, 43, 44, 398, 399, 400, 401, 402, 403, 404, 405, 45, 46, 406, 255, 256, 257, 258, 259, 260, 261, 262, 263, 264, 265, 266, 267, 268, 269, 270, 271, 272, 273, 274, 275, 276, 277, 278, 279, 158, 280, 407, 282, 283, 284, 285, 286, 287, 288, 289, 290, 291, 408, 409, 410, 411, 412, 413, 414, 415, 416, 417, 418, 419, 161, 162, 163, 164, 165, 166, 167, 168, 169, 170, 420, 153, 154, 155, 156, 157, 159, 171, 172, 173, 174, 175, 176, 177, 924, 925, 926, 927, 928, 929, 930, 951, 952, 953, 954, 955, 956, 957, 958, 959, 960, 961, 962, 963] (by decide +kernel) (by decide +kernel)
set_option maxRecDepth 20000 in
theorem gL_law_X5_spoon : GoodIn wsL_law (wsV RL 97 RX5 yX5_spoon wsX5_spoon) := goodIn_app (goodIn_of _ (by decide +kernel)) ggL_law_X5_spoon
set_option maxRecDepth 20000 in
theorem ggL_law_X6_spoon : GoodIn wsL_law wsX6_spoon := goodIn_r _ [544, 111, 80, 77, 483, 112, 113, 5, 114, 115, 116, 117, 122, 123, 124, 125, 78, 456, 457, 458, 459, 468, 469, 470, 471, 426, 427, 428, 429, 430, 431, 432, 433, 79, 198, 199, 200, 201, 202, 203, 204, 205, 143, 144, 145, 146, 135, 136, 137, 138, 302, 303, 304, 305, 306, 307, 308, 309, 310, 311, 312, 313, 139, 140, 141, 142, 314, 315, 316, 317, 318, 319, 320, 321, 434, 435, 436, 237, 238, 239, 240, 186, 187, 188, 189, 190, 191, 192, 193, 194, 195, 196, 197, 322, 323, 324, 325, 437, 438, 439, 206, 207, 208, 209, 931, 932, 933, 934, 935, 936, 937, 938, 939, 940, 941, 942, 943, 944, 945, 946, 947, 948, 949, 950] (by decide +kernel) (by decide +kernel)
set_option maxRecDepth 20000 in
theorem gL_law_X6_spoon : GoodIn wsL_law (wsV RL 100 RX6 yX6_spoon wsX6_spoon) := goodIn_app (goodIn_of _ (by decide +kernel)) ggL_law_X6_spoon
set_option maxRecDepth 20000 in
theorem ggL_law_X5_change : GoodIn wsL_law wsX5_change := goodIn_r _ [548, 93, 17, 16, 476, 214, 100, 101, 2, 102, 103, 104, 105, 106, 29, 444, 445, 446, 15, 447, 34, 35, 448, 449, 450, 451, 36, 37, 38, 39, 40, 41, 42, 43, 44, 398, 399, 400, 401, 402, 403, 404, 405, 45, 46, 406, 255, 256, 257, 258, 259, 260, 261, 262, 263, 264, 265, 266, 267, 268, 269, 270, 271, 272, 273, 274, 275, 276, 277, 278, 279, 158, 280, 407, 282, 283, 284, 285, 286, 287, 288, 289, 290, 291, 408, 409, 410, 411, 412, 413, 414, 415, 416, 417, 418, 419, 161, 162, 163, 164, 165, 166, 167, 168, 169, 170, 420, 153, 154, 155, 156, 157, 159, 549, 550, 551, 552, 175, 176, 177, 357, 358, 359, 360, 924, 925, 926, 927, 928, 929, 930, 951, 952, 953, 954, 955, 956, 957, 958, 959, 960, 961, 962, 963] (by decide +kernel) (by decide +kernel)
set_option maxRecDepth 20000 in
theorem gL_law_X5_change : GoodIn wsL_law (wsV RL 101 RX5 yX5_change wsX5_change) := goodIn_app (goodIn_of _ (by decide +kernel)) ggL_law_X5_change
set_option maxRecDepth 20000 in
theorem ggL_law_X6_change : GoodIn wsL_law wsX6_change := goodIn_r _ [556, 111, 80, 77, 483, 115, 116, 5, 117, 122, 123, 124, 125, 78, 456, 457, 458, 459, 468, 469, 470, 471, 426, 427, 428, 429, 430, 431, 432, 433, 79, 198, 199, 200, 201, 202, 203, 204, 205, 143, 144, 145, 146, 135, 136, 137, 138, 302, 303, 304, 305, 306, 307, 308, 309, 310, 311, 312, 313, 139, 140, 141, 142, 314, 315, 316, 317, 318, 319, 320, 321, 434, 435, 436, 237, 238, 239, 240, 186, 187, 188, 189, 190, 191, 192, 193, 194, 195, 196, 197, 322, 323, 324, 325, 437, 438, 439, 206, 207, 208, 209, 365, 366, 367, 368, 931, 932, 933, 934, 935, 936, 937, 938, 939, 940, 941, 942, 943, 944, 945, 946, 947, 948, 949, 950] (by decide +kernel) (by decide +kernel)
set_option maxRecDepth 20000 in
theorem gL_law_X6_change : GoodIn wsL_law (wsV RL 104 RX6 yX6_change wsX6_change) := goodIn_app (goodIn_of _ (by decide +kernel)) ggL_law_X6_change
set_option maxRecDepth 20000 in
theorem ggL_law_X5_feed : GoodIn wsL_law wsX5_feed := goodIn_r _ [560, 93, 23, 561, 215, 100, 101, 2, 102, 103, 104, 105, 106, 29, 562, 563, 564, 22, 565, 56, 55, 924, 925, 926, 927, 928, 929, 930, 964, 965, 966, 967, 968, 969] (by decide +kernel) (by decide +kernel)
set_option maxRecDepth 20000 in
theorem gL_law_X5_feed : GoodIn wsL_law (wsV RL 105 RX5 yX5_feed wsX5_feed) := goodIn_app (goodIn_of _ (by decide +kernel)) ggL_law_X5_feed
set_option maxRecDepth 20000 in
theorem ggL_law_X6_feed : GoodIn wsL_law wsX6_feed := goodIn_r _ [569, 111, 570, 228, 82, 115, 116, 5, 117, 122, 123, 124, 125, 78, 931, 932, 933, 934, 935, 936, 937, 938, 939, 940, 941, 942, 943, 944, 945, 946, 947, 948, 949, 950] (by decide +kernel) (by decide +kernel)
set_option maxRecDepth 20000 in
theorem gL_law_X6_feed : GoodIn wsL_law (wsV RL 108 RX6 yX6_feed wsX6_feed) := goodIn_app (goodIn_of _ (by decide +kernel)) ggL_law_X6_feed
set_option maxRecDepth 20000 in
theorem ggL_law_X5_wipe : GoodIn wsL_law wsX5_wipe := goodIn_r _ [574, 23, 575, 576, 577, 22, 578, 56, 924, 925, 926, 927, 928, 929, 930, 964, 965, 966, 967, 968, 969] (by decide +kernel) (by decide +kernel)
set_option maxRecDepth 20000 in
theorem gL_law_X5_wipe : GoodIn wsL_law (wsV RL 109 RX5 yX5_wipe wsX5_wipe) := goodIn_app (goodIn_of _ (by decide +kernel)) ggL_law_X5_wipe
set_option maxRecDepth 20000 in
theorem ggL_law_X6_wipe : GoodIn wsL_law wsX6_wipe := goodIn_r _ [582, 570, 931, 932, 933, 934, 935, 936, 937, 938, 939, 940, 941, 942, 943, 944, 945, 946, 947, 948, 949, 950] (by decide +kernel) (by decide +kernel)
set_option maxRecDepth 20000 in
theorem gL_law_X6_wipe : GoodIn wsL_law (wsV RL 112 RX6 yX6_wipe wsX6_wipe) := goodIn_app (goodIn_of _ (by decide +kernel)) ggL_law_X6_wipe
set_option maxRecDepth 20000 in
theorem ggL_law_X5_dinner : GoodIn wsL_law wsX5_dinner := goodIn_r _ [586, 17, 16, 23, 444, 445, 446, 15, 447, 34, 35, 448, 449, 450, 451, 36, 37, 38, 39, 40, 41, 42, 43, 44, 587, 588, 589, 590, 591, 592, 593, 58, 59, 22, 60, 61, 62, 63, 64, 594, 595, 596, 597, 56, 55, 598, 413, 414, 415, 599, 600, 601, 602, 603, 604, 605, 606, 607, 608, 609, 610, 611, 612, 613, 614, 615, 616, 617, 618, 619, 620, 621, 622, 623, 624, 625, 626, 627, 628, 629, 630, 631, 632, 633, 634, 635, 636, 637, 638, 639, 640, 641, 642, 643, 644, 645, 646, 647, 648, 649, 650, 651, 652, 653, 654, 655, 656, 657, 658, 659, 660, 661, 662, 663, 664, 665, 666, 667, 668, 669, 670, 671, 672, 673, 674, 675, 676, 677, 358, 359, 360, 678, 679, 680, 681, 682, 683, 684, 685, 686, 687, 688, 221, 222, 223, 575, 576, 577, 578, 924, 925, 926, 927, 928, 929, 930, 951, 952, 953, 954, 955, 956, 957, 958, 959, 960, 961, 962, 963, 964, 965, 966, 967, 968, 969] (by decide +kernel) (by decide +kernel)
set_option maxRecDepth 20000 in
theorem gL_law_X5_dinner : GoodIn wsL_law (wsV RL 113 RX5 yX5_dinner wsX5_dinner) := goodIn_app (goodIn_of _ (by decide +kernel)) ggL_law_X5_dinner
set_option maxRecDepth 20000 in
theorem ggL_law_X6_dinner : GoodIn wsL_law wsX6_dinner := goodIn_r _ [692, 88, 693, 694, 695, 696, 570, 697, 456, 457, 458, 5, 459, 77, 698, 699, 700, 701, 702, 703, 704, 705, 706, 707, 708, 709, 82, 710, 711, 712, 115, 116, 117, 713, 714, 715, 716, 717, 718, 719, 720, 721, 722, 723, 724, 725, 726, 727, 728, 729, 730, 731, 732, 733, 734, 735, 736, 737, 738, 739, 112, 113, 114, 139, 140, 141, 142, 143, 144, 145, 146, 740, 741, 742, 743, 233, 234, 235, 236, 237, 238, 239, 240, 744, 745, 746, 747, 748, 749, 750, 751, 752, 753, 754, 755, 756, 757, 758, 759, 760, 761, 762, 365, 366, 367, 368, 931, 932, 933, 934, 935, 936, 937, 938, 939, 940, 941, 942, 943, 944, 945, 946, 947, 948, 949, 950] (by decide +kernel) (by decide +kernel)
set_option maxRecDepth 20000 in
theorem gL_law_X6_dinner : GoodIn wsL_law (wsV RL 116 RX6 yX6_dinner wsX6_dinner) := goodIn_app (goodIn_of _ (by decide +kernel)) ggL_law_X6_dinner
set_option maxRecDepth 20000 in
theorem ggL_law_X5_sheet : GoodIn wsL_law wsX5_sheet := goodIn_r _ [766, 93, 767, 25, 768, 769, 770, 2, 771, 103, 104, 105, 106, 29, 772, 773, 774, 27, 775, 69, 70, 72, 776, 777, 49, 778, 924, 925, 926, 927, 928, 929, 930, 970, 971, 972] (by decide +kernel) (by decide +kernel)
set_option maxRecDepth 20000 in
theorem gL_law_X5_sheet : GoodIn wsL_law (wsV RL 117 RX5 yX5_sheet wsX5_sheet) := goodIn_app (goodIn_of _ (by decide +kernel)) ggL_law_X5_sheet
set_option maxRecDepth 20000 in
theorem ggL_law_X6_sheet : GoodIn wsL_law wsX6_sheet := goodIn_r _ [782, 111, 783, 83, 84, 85, 784, 785, 5, 786, 115, 116, 117, 122, 123, 124, 125, 78, 931, 932, 933, 934, 935, 936, 937, 938, 939, 940, 941, 942, 943, 944, 945, 946, 947, 948, 949, 950] (by decide +kernel) (by decide +kernel)
set_option maxRecDepth 20000 in
theorem gL_law_X6_sheet : GoodIn wsL_law (wsV RL 120 RX6 yX6_sheet wsX6_sheet) := goodIn_app (goodIn_of _ (by decide +kernel)) ggL_law_X6_sheet
set_option maxRecDepth 20000 in
theorem ggL_law_X5_write : GoodIn wsL_law wsX5_write := goodIn_r _ [790, 93, 25, 791, 792, 769, 770, 2, 771, 103, 104, 105, 106, 29, 793, 794, 795, 27, 796, 69, 797, 798, 799, 800, 70, 801, 802, 803, 804, 72, 924, 925, 926, 927, 928, 929, 930, 970, 971, 972] (by decide +kernel) (by decide +kernel)
set_option maxRecDepth 20000 in
theorem gL_law_X5_write : GoodIn wsL_law (wsV RL 123 RX5 yX5_write wsX5_write) := goodIn_app (goodIn_of _ (by decide +kernel)) ggL_law_X5_write
set_option maxRecDepth 20000 in
theorem ggL_law_X6_write : GoodIn wsL_law wsX6_write := goodIn_r _ [808, 111, 83, 809, 84, 85, 784, 785, 5, 786, 115, 116, 117, 122, 123, 124, 125, 78, 810, 811, 812, 931, 932, 933, 934, 935, 936, 937, 938, 939, 940, 941, 942, 943, 944, 945, 946, 947, 948, 949, 950] (by decide +kernel) (by decide +kernel)
set_option maxRecDepth 20000 in
theorem gL_law_X6_write : GoodIn wsL_law (wsV RL 127 RX6 yX6_write wsX6_write) := goodIn_app (goodIn_of _ (by decide +kernel)) ggL_law_X6_write
set_option maxRecDepth 20000 in
theorem ggL_law_X5_copy : GoodIn wsL_law wsX5_copy := goodIn_r _ [816, 93, 25, 791, 817, 381, 792, 818, 449, 450, 451, 769, 770, 2, 771, 103, 104, 105, 106, 29, 793, 794, 795, 27, 796, 69, 819, 820, 821, 822, 70, 924, 925, 926, 927, 928, 929, 930, 970, 971, 972] (by decide +kernel) (by decide +kernel)
set_option maxRecDepth 20000 in
theorem gL_law_X5_copy : GoodIn wsL_law (wsV RL 128 RX5 yX5_copy wsX5_copy) := goodIn_app (goodIn_of _ (by decide +kernel)) ggL_law_X5_copy
set_option maxRecDepth 20000 in
theorem ggL_law_X6_copy : GoodIn wsL_law wsX6_copy := goodIn_r _ [826, 111, 83, 809, 392, 86, 85, 784, 785, 5, 786, 115, 116, 117, 122, 123, 124, 125, 78, 827, 828, 829, 830, 84, 931, 932, 933, 934, 935, 936, 937, 938, 939, 940, 941, 942, 943, 944, 945, 946, 947, 948, 949, 950] (by decide +kernel) (by decide +kernel)
set_option maxRecDepth 20000 in
theorem gL_law_X6_copy : GoodIn wsL_law (wsV RL 132 RX6 yX6_copy wsX6_copy) := goodIn_app (goodIn_of _ (by decide +kernel)) ggL_law_X6_copy
set_option maxRecDepth 20000 in
theorem ggL_law_X5_lays : GoodIn wsL_law wsX5_lays := goodIn_r _ [834, 93, 25, 791, 768, 16, 214, 792, 835, 836, 247, 769, 770, 2, 771, 103, 104, 105, 106, 29, 793, 794, 795, 27, 796, 69, 924, 925, 926, 927, 928, 929, 930, 970, 971, 972, 951, 952, 953, 954, 955, 956, 957, 958, 959, 960, 961, 962, 963] (by decide +kernel) (by decide +kernel)
set_option maxRecDepth 20000 in
theorem gL_law_X5_lays : GoodIn wsL_law (wsV RL 133 RX5 yX5_lays wsX5_lays) := goodIn_app (goodIn_of _ (by decide +kernel)) ggL_law_X5_lays
set_option maxRecDepth 20000 in
theorem ggL_law_X6_lays : GoodIn wsL_law wsX6_lays := goodIn_r _ [840, 84, 77, 85, 841, 842, 843, 844, 845, 5, 846, 111, 83, 809, 784, 785, 786, 115, 116, 117, 122, 123, 124, 125, 78, 237, 238, 239, 240, 931, 932, 933, 934, 935, 936, 937, 938, 939, 940, 941, 942, 943, 944, 945, 946, 947, 948, 949, 950] (by decide +kernel) (by decide +kernel)
set_option maxRecDepth 20000 in
theorem gL_law_X6_lays : GoodIn wsL_law (wsV RL 136 RX6 yX6_lays wsX6_lays) := goodIn_app (goodIn_of _ (by decide +kernel)) ggL_law_X6_lays
set_option maxRecDepth 20000 in
theorem ggL_law_X5_book : GoodIn wsL_law wsX5_book := goodIn_r _ [850, 25, 17, 16, 768, 247, 851, 852, 853, 2, 854, 93, 791, 769, 770, 771, 793, 794, 795, 27, 796, 69, 250, 251, 252, 15, 253, 39, 103, 104, 105, 106, 29, 444, 445, 446, 447, 34, 35, 448, 449, 450, 451, 36, 37, 38, 40, 41, 42, 43, 44, 477, 403, 404, 405, 45, 46, 406, 255, 256, 257, 258, 259, 260, 261, 262, 263, 264, 265, 266, 267, 268, 269, 270, 271, 272, 273, 274, 275, 276, 277, 278, 279, 158, 280, 407, 282, 283, 284, 285, 286, 287, 288, 289, 290, 291, 801, 802, 803, 804, 72, 478, 409, 410, 411, 412, 413, 414, 415, 416, 417, 418, 419, 161, 162, 163, 164, 165, 166, 167, 168, 169, 170, 420, 153, 154, 155, 156, 157, 159, 924, 925, 926, 927, 928, 929, 930, 970, 971, 972, 951, 952, 953, 954, 955, 956, 957, 958, 959, 960, 961, 962, 963] (by decide +kernel) (by decide +kernel)
set_option maxRecDepth 20000 in
theorem gL_law_X5_book : GoodIn wsL_law (wsV RL 137 RX5 yX5_book wsX5_book) := goodIn_app (goodIn_of _ (by decide +kernel)) ggL_law_X5_book
set_option maxRecDepth 20000 in
theorem ggL_law_X6_book : GoodIn wsL_law wsX6_book := goodIn_r _ [858, 111, 80, 84, 85, 843, 844, 845, 5, 846, 83, 809, 784, 785, 786, 115, 116, 117, 122, 123, 124, 125, 78, 298, 299, 300, 301, 77, 456, 457, 458, 459, 143, 144, 145, 146, 430, 431, 432, 433, 79, 198, 199, 200, 201, 202, 203, 204, 205, 135, 136, 137, 138, 302, 303, 304, 305, 306, 307, 308, 309, 310, 311, 312, 313, 139, 140, 141, 142, 314, 315, 316, 317, 318, 319, 320, 321, 434, 435, 436, 237, 238, 239, 240, 186, 187, 188, 189, 190, 191, 192, 193, 194, 195, 196, 197, 322, 323, 324, 325, 437, 438, 439, 931, 932, 933, 934, 935, 936, 937, 938, 939, 940, 941, 942, 943, 944, 945, 946, 947, 948, 949, 950] (by decide +kernel) (by decide +kernel)
set_option maxRecDepth 20000 in
theorem gL_law_X6_book : GoodIn wsL_law (wsV RL 140 RX6 yX6_book wsX6_book) := goodIn_app (goodIn_of _ (by decide +kernel)) ggL_law_X6_book
set_option maxRecDepth 20000 in
theorem ggL_law_X5_read : GoodIn wsL_law wsX5_read := goodIn_r _ [862, 17, 16, 245, 96, 246, 25, 851, 852, 853, 2, 854, 93, 791, 769, 770, 771, 793, 794, 795, 27, 796, 69, 250, 251, 252, 15, 253, 39, 103, 104, 105, 106, 29, 444, 445, 446, 447, 34, 35, 448, 449, 450, 451, 36, 37, 38, 40, 41, 42, 43, 44, 863, 864, 865, 866, 768, 792, 247, 477, 403, 404, 405, 45, 46, 406, 255, 256, 257, 258, 259, 260, 261, 262, 263, 264, 265, 266, 267, 268, 269, 270, 271, 272, 273, 274, 275, 276, 277, 278, 279, 158, 280, 407, 282, 283, 284, 285, 286, 287, 288, 289, 290, 291, 478, 409, 410, 411, 412, 413, 414, 415, 416, 417, 418, 419, 161, 162, 163, 164, 165, 166, 167, 168, 169, 170, 420, 153, 154, 155, 156, 157, 159, 924, 925, 926, 927, 928, 929, 930, 951, 952, 953, 954, 955, 956, 957, 958, 959, 960, 961, 962, 963, 970, 971, 972] (by decide +kernel) (by decide +kernel)
set_option maxRecDepth 20000 in
theorem gL_law_X5_read : GoodIn wsL_law (wsV RL 141 RX5 yX5_read wsX5_read) := goodIn_app (goodIn_of _ (by decide +kernel)) ggL_law_X5_read
set_option maxRecDepth 20000 in
theorem ggL_law_X6_read : GoodIn wsL_law wsX6_read := goodIn_r _ [870, 111, 81, 77, 843, 844, 845, 5, 846, 83, 809, 784, 785, 786, 115, 116, 117, 122, 123, 124, 125, 78, 298, 299, 300, 301, 456, 457, 458, 459, 237, 238, 239, 240, 143, 144, 145, 146, 871, 872, 873, 874, 84, 85, 430, 431, 432, 433, 79, 198, 199, 200, 201, 202, 203, 204, 205, 135, 136, 137, 138, 302, 303, 304, 305, 306, 307, 308, 309, 310, 311, 312, 313, 139, 140, 141, 142, 314, 315, 316, 317, 318, 319, 320, 321, 434, 435, 436, 186, 187, 188, 189, 190, 191, 192, 193, 194, 195, 196, 197, 322, 323, 324, 325, 437, 438, 439, 931, 932, 933, 934, 935, 936, 937, 938, 939, 940, 941, 942, 943, 944, 945, 946, 947, 948, 949, 950] (by decide +kernel) (by decide +kernel)
set_option maxRecDepth 20000 in
theorem gL_law_X6_read : GoodIn wsL_law (wsV RL 144 RX6 yX6_read wsX6_read) := goodIn_app (goodIn_of _ (by decide +kernel)) ggL_law_X6_read
set_option maxRecDepth 20000 in
theorem ggL_law_X5_image : GoodIn wsL_law wsX5_image := goodIn_r _ [878, 18, 16, 19, 444, 445, 446, 15, 447, 34, 35, 448, 449, 450, 451, 36, 37, 38, 39, 40, 41, 42, 43, 44, 924, 925, 926, 927, 928, 929, 930, 951, 952, 953, 954, 955, 956, 957, 958, 959, 960, 961, 962, 963] (by decide +kernel) (by decide +kernel)
set_option maxRecDepth 20000 in
theorem gL_law_X5_image : GoodIn wsL_law (wsV RL 145 RX5 yX5_image wsX5_image) := goodIn_app (goodIn_of _ (by decide +kernel)) ggL_law_X5_image
set_option maxRecDepth 20000 in
theorem ggL_law_X6_image : GoodIn wsL_law wsX6_image := goodIn_r _ [882, 87, 883, 456, 457, 458, 5, 459, 77, 931, 932, 933, 934, 935, 936, 937, 938, 939, 940, 941, 942, 943, 944, 945, 946, 947, 948, 949, 950] (by decide +kernel) (by decide +kernel)
set_option maxRecDepth 20000 in
theorem gL_law_X6_image : GoodIn wsL_law (wsV RL 148 RX6 yX6_image wsX6_image) := goodIn_app (goodIn_of _ (by decide +kernel)) ggL_law_X6_image
set_option maxRecDepth 20000 in
theorem ggL_law_X5_undo : GoodIn wsL_law wsX5_undo := goodIn_r _ [887, 19, 476, 16, 18, 214, 103, 104, 105, 2, 106, 93, 29, 444, 445, 446, 15, 447, 34, 35, 448, 449, 450, 451, 36, 37, 38, 39, 40, 41, 42, 43, 44, 924, 925, 926, 927, 928, 929, 930, 951, 952, 953, 954, 955, 956, 957, 958, 959, 960, 961, 962, 963] (by decide +kernel) (by decide +kernel)
set_option maxRecDepth 20000 in
theorem gL_law_X5_undo : GoodIn wsL_law (wsV RL 149 RX5 yX5_undo wsX5_undo) := goodIn_app (goodIn_of _ (by decide +kernel)) ggL_law_X5_undo
set_option maxRecDepth 20000 in
theorem ggL_law_X6_undo : GoodIn wsL_law wsX6_undo := goodIn_r _ [891, 883, 483, 87, 77, 122, 123, 124, 5, 125, 78, 111, 456, 457, 458, 459, 931, 932, 933, 934, 935, 936, 937, 938, 939, 940, 941, 942, 943, 944, 945, 946, 947, 948, 949, 950] (by decide +kernel) (by decide +kernel)
set_option maxRecDepth 20000 in
theorem gL_law_X6_undo : GoodIn wsL_law (wsV RL 152 RX6 yX6_undo wsX6_undo) := goodIn_app (goodIn_of _ (by decide +kernel)) ggL_law_X6_undo
set_option maxRecDepth 20000 in
theorem ggL_law_X5_tear : GoodIn wsL_law wsX5_tear := goodIn_r _ [895, 19, 924, 925, 926, 927, 928, 929, 930] (by decide +kernel) (by decide +kernel)
set_option maxRecDepth 20000 in
theorem gL_law_X5_tear : GoodIn wsL_law (wsV RL 153 RX5 yX5_tear wsX5_tear) := goodIn_app (goodIn_of _ (by decide +kernel)) ggL_law_X5_tear
set_option maxRecDepth 20000 in
theorem ggL_law_X6_tear : GoodIn wsL_law wsX6_tear := goodIn_r _ [899, 883, 931, 932, 933, 934, 935, 936, 937, 938, 939, 940, 941, 942, 943, 944, 945, 946, 947, 948, 949, 950] (by decide +kernel) (by decide +kernel)
set_option maxRecDepth 20000 in
theorem gL_law_X6_tear : GoodIn wsL_law (wsV RL 156 RX6 yX6_tear wsX6_tear) := goodIn_app (goodIn_of _ (by decide +kernel)) ggL_law_X6_tear
set_option maxRecDepth 20000 in
theorem ggL_law_X5_count : GoodIn wsL_law wsX5_count := goodIn_r _ [903, 16, 214, 23, 561, 93, 549, 550, 551, 15, 552, 44, 39, 175, 176, 177, 904, 905, 906, 907, 37, 103, 104, 105, 2, 106, 29, 924, 925, 926, 927, 928, 929, 930, 951, 952, 953, 954, 955, 956, 957, 958, 959, 960, 961, 962, 963, 964, 965, 966, 967, 968, 969] (by decide +kernel) (by decide +kernel)
set_option maxRecDepth 20000 in
theorem gL_law_X5_count : GoodIn wsL_law (wsV RL 157 RX5 yX5_count wsX5_count) := goodIn_app (goodIn_of _ (by decide +kernel)) ggL_law_X5_count
set_option maxRecDepth 20000 in
theorem ggL_law_X6_count : GoodIn wsL_law wsX6_count := goodIn_r _ [911, 77, 570, 111, 206, 207, 208, 5, 209, 143, 144, 145, 146, 912, 913, 914, 915, 135, 136, 137, 138, 122, 123, 124, 125, 78, 931, 932, 933, 934, 935, 936, 937, 938, 939, 940, 941, 942, 943, 944, 945, 946, 947, 948, 949, 950] (by decide +kernel) (by decide +kernel)
set_option maxRecDepth 20000 in
theorem gL_law_X6_count : GoodIn wsL_law (wsV RL 160 RX6 yX6_count wsX6_count) := goodIn_app (goodIn_of _ (by decide +kernel)) ggL_law_X6_count
set_option maxRecDepth 20000 in
theorem ggL_law_X5_status : GoodIn wsL_law wsX5_status := goodIn_r _ [919, 93, 29, 100, 101, 2, 102, 103, 104, 105, 106, 924, 925, 926, 927, 928, 929, 930] (by decide +kernel) (by decide +kernel)
set_option maxRecDepth 20000 in
theorem gL_law_X5_status : GoodIn wsL_law (wsV RL 161 RX5 yX5_status wsX5_status) := goodIn_app (goodIn_of _ (by decide +kernel)) ggL_law_X5_status
set_option maxRecDepth 20000 in
theorem ggL_law_X6_status : GoodIn wsL_law wsX6_status := goodIn_r _ [923, 111, 78, 115, 116, 5, 117, 122, 123, 124, 125, 931, 932, 933, 934, 935, 936, 937, 938, 939, 940, 941, 942, 943, 944, 945, 946, 947, 948, 949, 950] (by decide +kernel) (by decide +kernel)
set_option maxRecDepth 20000 in
theorem gL_law_X6_status : GoodIn wsL_law (wsV RL 164 RX6 yX6_status wsX6_status) := goodIn_app (goodIn_of _ (by decide +kernel)) ggL_law_X6_status
