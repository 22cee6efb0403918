set_option maxRecDepth 20000 in
theorem ggL_law_X6_init : GoodIn wsL_law wsX6_init := goodIn_r _ [8, 9, 10, 11, 12, 13, 14, 15, 16, 17, 18, 19, 20, 21, 22, 23, 24, 25, 26, 27, 28, 29, 30, 31, 32, 33, 34, 35, 36, 37, 38, 39, 40, 41, 42, 43, 44, 45, 46, 47, 48, 49, 50, 51, 52, 53, 54, 55, 56, 57, 58, 59, 60, 61, 62, 63, 64, 65, 66, 67, 68, 959, 960, 961, 962, 963, 964, 965, 966, 967, 968, 923, 924, 925, 926, 927, 928, 929, 969, 970, 971, 972, 973, 974, 975, 976] (by decide +kernel) (by decide +kernel)
set_option maxRecDepth 20000 in
theorem gL_law_X6_init : GoodIn wsL_law (wsX6_init) := ggL_law_X6_init
set_option maxRecDepth 20000 in
theorem ggL_law_X7_init : GoodIn wsL_law wsX7_init := goodIn_r _ [71, 72, 10, 11, 27, 73, 74, 75, 76, 77, 78, 79, 80, 81, 82, 83, 84, 85, 86, 87, 88, 89, 90, 930, 931, 932, 933, 934, 935, 936, 937, 938, 939, 940, 941, 942, 943, 944, 945, 946, 947, 948, 949, 950, 951, 952, 953, 954, 955, 956, 957, 958] (by decide +kernel) (by decide +kernel)
set_option maxRecDepth 20000 in
theorem gL_law_X7_init : GoodIn wsL_law (wsX7_init) := ggL_law_X7_init
set_option maxRecDepth 20000 in
theorem ggL_law_X6_letter : GoodIn wsL_law wsX6_letter := goodIn_r _ [94, 22, 95, 96, 97, 2, 98, 28, 99, 21, 100, 101, 63, 62, 923, 924, 925, 926, 927, 928, 929, 969, 970] (by decide +kernel) (by decide +kernel)
set_option maxRecDepth 20000 in
theorem gL_law_X6_letter : GoodIn wsL_law (wsV RL 13 RX6 yX6_letter wsX6_letter) := goodIn_app (goodIn_of _ (by decide +kernel)) ggL_law_X6_letter
set_option maxRecDepth 20000 in
theorem ggL_law_X7_letter : GoodIn wsL_law wsX7_letter := goodIn_r _ [105, 106, 84, 107, 108, 5, 109, 110, 111, 112, 113, 73, 930, 931, 932, 933, 934, 935, 936, 937, 938, 939, 940, 941, 942, 943, 944, 945, 946, 947, 948, 949, 950, 951, 952, 953, 954, 955, 956, 957, 958] (by decide +kernel) (by decide +kernel)
set_option maxRecDepth 20000 in
theorem gL_law_X7_letter : GoodIn wsL_law (wsV RL 17 RX7 yX7_letter wsX7_letter) := goodIn_app (goodIn_of _ (by decide +kernel)) ggL_law_X7_letter
set_option maxRecDepth 20000 in
theorem ggL_law_X6_load : GoodIn wsL_law wsX6_load := goodIn_r _ [117, 22, 118, 21, 119, 120, 63, 121, 122, 123, 124, 125, 126, 127, 128, 129, 130, 131, 132, 133, 134, 135, 136, 62, 137, 138, 139, 140, 141, 142, 143, 144, 145, 146, 147, 148, 149, 150, 151, 152, 153, 154, 155, 156, 157, 158, 159, 160, 161, 162, 163, 164, 165, 166, 167, 168, 169, 170, 171, 172, 173, 174, 175, 176, 177, 178, 179, 180, 181, 182, 183, 184, 185, 186, 187, 188, 189, 190, 191, 192, 193, 194, 195, 196, 197, 198, 199, 200, 201, 202, 203, 204, 205, 206, 207, 208, 209, 210, 211, 212, 213, 214, 215, 216, 217, 218, 219, 220, 221, 222, 223, 224, 225, 226, 227, 228, 229, 230, 231, 232, 233, 234, 235, 236, 237, 238, 239, 240, 241, 242, 243, 244, 245, 246, 247, 248, 249, 250, 251, 252, 253, 254, 255, 256, 257, 258, 259, 260, 2, 261, 16, 15, 262, 14, 263, 264, 32, 265, 266, 267, 268, 33, 34, 35, 36, 37, 38, 45, 49, 269, 48, 270, 271, 54, 272, 55, 56, 57, 273, 274, 275, 276, 277, 278, 279, 280, 281, 282, 283, 284, 285, 286, 287, 288, 289, 290, 291, 292, 293, 294, 295, 296, 297, 298, 299, 300, 301, 302, 303, 304, 305, 306, 307, 308, 309, 310, 311, 312, 313, 314, 315, 316, 317, 318, 319, 320, 321, 322, 323, 324, 325, 923, 924, 925, 926, 927, 928, 929, 969, 970, 959, 960, 961, 962, 963, 964, 965, 966, 967, 968, 973, 974, 975, 976] (by decide +kernel) (by decide +kernel)
set_option maxRecDepth 20000 in
theorem gL_law_X6_load : GoodIn wsL_law (wsV RL 18 RX6 yX6_load wsX6_load) := goodIn_app (goodIn_of _ (by decide +kernel)) ggL_law_X6_load
set_option maxRecDepth 20000 in
theorem ggL_law_X7_load : GoodIn wsL_law wsX7_load := goodIn_r _ [329, 330, 331, 106, 86, 332, 333, 334, 5, 335, 85, 336, 337, 338, 339, 84, 340, 341, 342, 343, 344, 345, 346, 347, 87, 348, 349, 350, 351, 352, 353, 354, 355, 356, 357, 358, 359, 360, 361, 362, 363, 364, 365, 366, 367, 368, 369, 370, 74, 75, 76, 77, 78, 79, 80, 81, 82, 83, 371, 372, 373, 374, 375, 88, 376, 377, 378, 379, 380, 381, 382, 383, 384, 385, 386, 387, 388, 389, 390, 391, 392, 393, 394, 930, 931, 932, 933, 934, 935, 936, 937, 938, 939, 940, 941, 942, 943, 944, 945, 946, 947, 948, 949, 950, 951, 952, 953, 954, 955, 956, 957, 958] (by decide +kernel) (by decide +kernel)
set_option maxRecDepth 20000 in
theorem gL_law_X7_load : GoodIn wsL_law (wsV RL 22 RX7 yX7_load wsX7_load) := goodIn_app (goodIn_of _ (by decide +kernel)) ggL_law_X7_load
set_option maxRecDepth 20000 in
theorem ggL_law_X6_layer : GoodIn wsL_law wsX6_layer := goodIn_r _ [398, 15, 399, 14, 400, 401, 38, 402, 403, 404, 2, 405, 406, 95, 96, 97, 98, 28, 298, 299, 300, 32, 33, 301, 188, 302, 407, 408, 923, 924, 925, 926, 927, 928, 929, 959, 960, 961, 962, 963, 964, 965, 966, 967, 968] (by decide +kernel) (by decide +kernel)
set_option maxRecDepth 20000 in
theorem gL_law_X6_layer : GoodIn wsL_law (wsV RL 23 RX6 yX6_layer wsX6_layer) := goodIn_app (goodIn_of _ (by decide +kernel)) ggL_law_X6_layer
set_option maxRecDepth 20000 in
theorem ggL_law_X7_layer : GoodIn wsL_law wsX7_layer := goodIn_r _ [412, 75, 76, 77, 78, 413, 414, 415, 5, 416, 371, 417, 418, 419, 420, 73, 421, 422, 423, 424, 425, 426, 427, 428, 429, 79, 430, 431, 432, 433, 434, 435, 436, 437, 438, 439, 440, 441, 442, 443, 444, 930, 931, 932, 933, 934, 935, 936, 937, 938, 939, 940, 941, 942, 943, 944, 945, 946, 947, 948, 949, 950, 951, 952, 953, 954, 955, 956, 957, 958] (by decide +kernel) (by decide +kernel)
set_option maxRecDepth 20000 in
theorem gL_law_X7_layer : GoodIn wsL_law (wsV RL 27 RX7 yX7_layer wsX7_layer) := goodIn_app (goodIn_of _ (by decide +kernel)) ggL_law_X7_layer
set_option maxRecDepth 20000 in
theorem ggL_law_X6_piece : GoodIn wsL_law wsX6_piece := goodIn_r _ [448, 15, 449, 14, 450, 451, 49, 452, 311, 312, 313, 95, 96, 97, 2, 98, 28, 923, 924, 925, 926, 927, 928, 929, 959, 960, 961, 962, 963, 964, 965, 966, 967, 968, 973, 974, 975, 976] (by decide +kernel) (by decide +kernel)
set_option maxRecDepth 20000 in
theorem gL_law_X6_piece : GoodIn wsL_law (wsV RL 28 RX6 yX6_piece wsX6_piece) := goodIn_app (goodIn_of _ (by decide +kernel)) ggL_law_X6_piece
set_option maxRecDepth 20000 in
theorem ggL_law_X7_piece : GoodIn wsL_law wsX7_piece := goodIn_r _ [456, 80, 81, 82, 457, 458, 459, 5, 460, 83, 392, 393, 394, 110, 111, 112, 113, 73, 930, 931, 932, 933, 934, 935, 936, 937, 938, 939, 940, 941, 942, 943, 944, 945, 946, 947, 948, 949, 950, 951, 952, 953, 954, 955, 956, 957, 958] (by decide +kernel) (by decide +kernel)
set_option maxRecDepth 20000 in
theorem gL_law_X7_piece : GoodIn wsL_law (wsV RL 32 RX7 yX7_piece wsX7_piece) := goodIn_app (goodIn_of _ (by decide +kernel)) ggL_law_X7_piece
set_option maxRecDepth 20000 in
theorem ggL_law_X6_off : GoodIn wsL_law wsX6_off := goodIn_r _ [464, 15, 320, 14, 321, 322, 38, 297, 298, 299, 300, 32, 33, 301, 188, 302, 303, 304, 305, 306, 37, 95, 96, 97, 2, 98, 28, 923, 924, 925, 926, 927, 928, 929, 959, 960, 961, 962, 963, 964, 965, 966, 967, 968] (by decide +kernel) (by decide +kernel)
set_option maxRecDepth 20000 in
theorem gL_law_X6_off : GoodIn wsL_law (wsV RL 33 RX6 yX6_off wsX6_off) := goodIn_app (goodIn_of _ (by decide +kernel)) ggL_law_X6_off
set_option maxRecDepth 20000 in
theorem ggL_law_X7_off : GoodIn wsL_law wsX7_off := goodIn_r _ [468, 371, 110, 111, 112, 5, 113, 73, 930, 931, 932, 933, 934, 935, 936, 937, 938, 939, 940, 941, 942, 943, 944, 945, 946, 947, 948, 949, 950, 951, 952, 953, 954, 955, 956, 957, 958] (by decide +kernel) (by decide +kernel)
set_option maxRecDepth 20000 in
theorem gL_law_X7_off : GoodIn wsL_law (wsV RL 36 RX7 yX7_off wsX7_off) := goodIn_app (goodIn_of _ (by decide +kernel)) ggL_law_X7_off
set_option maxRecDepth 20000 in
theorem ggL_law_X6_out : GoodIn wsL_law wsX6_out := goodIn_r _ [472, 15, 399, 14, 400, 401, 38, 95, 96, 97, 2, 98, 28, 923, 924, 925, 926, 927, 928, 929, 959, 960, 961, 962, 963, 964, 965, 966, 967, 968] (by decide +kernel) (by decide +kernel)
set_option maxRecDepth 20000 in
theorem gL_law_X6_out : GoodIn wsL_law (wsV RL 37 RX6 yX6_out wsX6_out) := goodIn_app (goodIn_of _ (by decide +kernel)) ggL_law_X6_out
set_option maxRecDepth 20000 in
theorem ggL_law_X7_out : GoodIn wsL_law wsX7_out := goodIn_r _ [476, 77, 413, 414, 415, 5, 416, 371, 107, 108, 109, 110, 111, 112, 113, 73, 930, 931, 932, 933, 934, 935, 936, 937, 938, 939, 940, 941, 942, 943, 944, 945, 946, 947, 948, 949, 950, 951, 952, 953, 954, 955, 956, 957, 958] (by decide +kernel) (by decide +kernel)
set_option maxRecDepth 20000 in
theorem gL_law_X7_out : GoodIn wsL_law (wsV RL 40 RX7 yX7_out wsX7_out) := goodIn_app (goodIn_of _ (by decide +kernel)) ggL_law_X7_out
set_option maxRecDepth 20000 in
theorem ggL_law_X6_set : GoodIn wsL_law wsX6_set := goodIn_r _ [480, 481, 482, 15, 95, 96, 97, 2, 98, 28, 923, 924, 925, 926, 927, 928, 929, 959, 960, 961, 962, 963, 964, 965, 966, 967, 968] (by decide +kernel) (by decide +kernel)
set_option maxRecDepth 20000 in
theorem gL_law_X6_set : GoodIn wsL_law (wsV RL 41 RX6 yX6_set wsX6_set) := goodIn_app (goodIn_of _ (by decide +kernel)) ggL_law_X6_set
set_option maxRecDepth 20000 in
theorem ggL_law_X7_set : GoodIn wsL_law wsX7_set := goodIn_r _ [486, 74, 355, 356, 5, 357, 487, 488, 489, 107, 108, 109, 110, 111, 112, 113, 73, 930, 931, 932, 933, 934, 935, 936, 937, 938, 939, 940, 941, 942, 943, 944, 945, 946, 947, 948, 949, 950, 951, 952, 953, 954, 955, 956, 957, 958] (by decide +kernel) (by decide +kernel)
set_option maxRecDepth 20000 in
theorem gL_law_X7_set : GoodIn wsL_law (wsV RL 44 RX7 yX7_set wsX7_set) := goodIn_app (goodIn_of _ (by decide +kernel)) ggL_law_X7_set
set_option maxRecDepth 20000 in
theorem ggL_law_X6_shift : GoodIn wsL_law wsX6_shift := goodIn_r _ [493, 15, 449, 14, 450, 451, 49, 452, 311, 312, 313, 399, 400, 401, 38, 95, 96, 97, 2, 98, 28, 494, 495, 496, 37, 35, 291, 292, 204, 293, 34, 923, 924, 925, 926, 927, 928, 929, 959, 960, 961, 962, 963, 964, 965, 966, 967, 968, 973, 974, 975, 976] (by decide +kernel) (by decide +kernel)
set_option maxRecDepth 20000 in
theorem gL_law_X6_shift : GoodIn wsL_law (wsV RL 45 RX6 yX6_shift wsX6_shift) := goodIn_app (goodIn_of _ (by decide +kernel)) ggL_law_X6_shift
set_option maxRecDepth 20000 in
theorem ggL_law_X7_shift : GoodIn wsL_law wsX7_shift := goodIn_r _ [500, 457, 458, 459, 5, 460, 83, 392, 393, 394, 413, 414, 415, 416, 371, 501, 502, 503, 504, 81, 78, 80, 77, 441, 442, 443, 444, 422, 423, 424, 425, 75, 76, 110, 111, 112, 113, 73, 930, 931, 932, 933, 934, 935, 936, 937, 938, 939, 940, 941, 942, 943, 944, 945, 946, 947, 948, 949, 950, 951, 952, 953, 954, 955, 956, 957, 958] (by decide +kernel) (by decide +kernel)
set_option maxRecDepth 20000 in
theorem gL_law_X7_shift : GoodIn wsL_law (wsV RL 48 RX7 yX7_shift wsX7_shift) := goodIn_app (goodIn_of _ (by decide +kernel)) ggL_law_X7_shift
set_option maxRecDepth 20000 in
theorem ggL_law_X6_slips : GoodIn wsL_law wsX6_slips := goodIn_r _ [508, 15, 311, 14, 312, 313, 49, 95, 96, 97, 2, 98, 28, 509, 510, 511, 512, 513, 514, 515, 38, 516, 517, 518, 519, 520, 521, 522, 523, 32, 407, 188, 408, 524, 525, 526, 527, 34, 528, 529, 530, 531, 532, 494, 495, 496, 37, 35, 291, 292, 204, 293, 533, 534, 535, 536, 36, 45, 923, 924, 925, 926, 927, 928, 929, 959, 960, 961, 962, 963, 964, 965, 966, 967, 968, 973, 974, 975, 976] (by decide +kernel) (by decide +kernel)
set_option maxRecDepth 20000 in
theorem gL_law_X6_slips : GoodIn wsL_law (wsV RL 49 RX6 yX6_slips wsX6_slips) := goodIn_app (goodIn_of _ (by decide +kernel)) ggL_law_X6_slips
set_option maxRecDepth 20000 in
theorem ggL_law_X7_slips : GoodIn wsL_law wsX7_slips := goodIn_r _ [540, 541, 542, 392, 393, 5, 394, 355, 356, 357, 110, 111, 112, 113, 73, 543, 544, 545, 546, 83, 547, 548, 549, 550, 371, 551, 552, 553, 554, 80, 555, 556, 557, 558, 81, 559, 560, 561, 562, 437, 438, 439, 440, 75, 563, 564, 565, 566, 77, 567, 568, 569, 570, 571, 572, 573, 574, 74, 426, 427, 428, 429, 79, 430, 431, 432, 433, 76, 434, 435, 436, 501, 502, 503, 504, 78, 441, 442, 443, 444, 422, 423, 424, 425, 930, 931, 932, 933, 934, 935, 936, 937, 938, 939, 940, 941, 942, 943, 944, 945, 946, 947, 948, 949, 950, 951, 952, 953, 954, 955, 956, 957, 958] (by decide +kernel) (by decide +kernel)
set_option maxRecDepth 20000 in
theorem gL_law_X7_slips : GoodIn wsL_law (wsV RL 52 RX7 yX7_slips wsX7_slips) := goodIn_app (goodIn_of _ (by decide +kernel)) ggL_law_X7_slips
set_option maxRecDepth 20000 in
theorem ggL_law_X6_margin : GoodIn wsL_law wsX6_margin := goodIn_r _ [578, 15, 311, 14, 312, 313, 49, 402, 403, 404, 2, 405, 406, 95, 96, 97, 98, 28, 579, 580, 581, 582, 207, 204, 208, 583, 584, 585, 586, 38, 533, 534, 535, 536, 36, 45, 532, 494, 495, 496, 37, 35, 291, 292, 293, 34, 923, 924, 925, 926, 927, 928, 929, 959, 960, 961, 962, 963, 964, 965, 966, 967, 968, 973, 974, 975, 976] (by decide +kernel) (by decide +kernel)
set_option maxRecDepth 20000 in
theorem gL_law_X6_margin : GoodIn wsL_law (wsV RL 53 RX6 yX6_margin wsX6_margin) := goodIn_app (goodIn_of _ (by decide +kernel)) ggL_law_X6_margin
set_option maxRecDepth 20000 in
theorem ggL_law_X7_margin : GoodIn wsL_law wsX7_margin := goodIn_r _ [590, 392, 393, 5, 394, 591, 592, 593, 594, 83, 371, 551, 552, 553, 554, 80, 571, 572, 573, 574, 74, 426, 427, 428, 429, 79, 430, 431, 432, 433, 76, 75, 434, 435, 436, 501, 502, 503, 504, 81, 78, 77, 441, 442, 443, 444, 422, 423, 424, 425, 417, 418, 419, 420, 73, 421, 930, 931, 932, 933, 934, 935, 936, 937, 938, 939, 940, 941, 942, 943, 944, 945, 946, 947, 948, 949, 950, 951, 952, 953, 954, 955, 956, 957, 958] (by decide +kernel) (by decide +kernel)
set_option maxRecDepth 20000 in
theorem gL_law_X7_margin : GoodIn wsL_law (wsV RL 56 RX7 yX7_margin wsX7_margin) := goodIn_app (goodIn_of _ (by decide +kernel)) ggL_law_X7_margin
set_option maxRecDepth 20000 in
theorem ggL_law_X6_high : GoodIn wsL_law wsX6_high := goodIn_r _ [598, 15, 16, 311, 14, 312, 313, 49, 95, 96, 97, 2, 98, 28, 262, 263, 264, 32, 265, 266, 267, 268, 33, 34, 35, 36, 37, 38, 45, 269, 48, 270, 271, 54, 272, 55, 56, 57, 599, 600, 601, 602, 509, 510, 511, 512, 513, 514, 515, 516, 517, 518, 519, 520, 521, 522, 523, 407, 188, 408, 524, 525, 526, 527, 528, 529, 530, 531, 532, 494, 495, 496, 291, 292, 204, 293, 533, 534, 535, 536, 320, 321, 322, 297, 298, 299, 300, 301, 302, 303, 304, 305, 306, 923, 924, 925, 926, 927, 928, 929, 959, 960, 961, 962, 963, 964, 965, 966, 967, 968, 973, 974, 975, 976] (by decide +kernel) (by decide +kernel)
set_option maxRecDepth 20000 in
theorem gL_law_X6_high : GoodIn wsL_law (wsV RL 57 RX6 yX6_high wsX6_high) := goodIn_app (goodIn_of _ (by decide +kernel)) ggL_law_X6_high
set_option maxRecDepth 20000 in
theorem ggL_law_X7_high : GoodIn wsL_law wsX7_high := goodIn_r _ [606, 371, 392, 393, 5, 394, 110, 111, 112, 113, 73, 607, 608, 609, 610, 541, 543, 544, 545, 546, 542, 83, 547, 548, 549, 550, 551, 552, 553, 554, 80, 555, 556, 557, 558, 81, 559, 560, 561, 562, 437, 438, 439, 440, 75, 563, 564, 565, 566, 77, 567, 568, 569, 570, 571, 572, 573, 574, 74, 426, 427, 428, 429, 79, 430, 431, 432, 433, 76, 434, 435, 436, 501, 502, 503, 504, 78, 441, 442, 443, 444, 422, 423, 424, 425, 930, 931, 932, 933, 934, 935, 936, 937, 938, 939, 940, 941, 942, 943, 944, 945, 946, 947, 948, 949, 950, 951, 952, 953, 954, 955, 956, 957, 958] (by decide +kernel) (by decide +kernel)
set_option maxRecDepth 20000 in
theorem gL_law_X7_high : GoodIn wsL_law (wsV RL 60 RX7 yX7_high wsX7_high) := goodIn_app (goodIn_of _ (by decide +kernel)) ggL_law_X7_high
set_option maxRecDepth 20000 in
theorem ggL_law_X6_more : GoodIn wsL_law wsX6_more := goodIn_r _ [614, 15, 16, 311, 14, 312, 313, 49, 95, 96, 97, 2, 98, 28, 399, 400, 401, 38, 262, 263, 264, 32, 265, 266, 267, 268, 33, 34, 35, 36, 37, 45, 269, 48, 270, 271, 54, 272, 55, 56, 57, 288, 289, 290, 291, 292, 204, 293, 294, 188, 295, 296, 203, 205, 297, 298, 299, 300, 301, 302, 303, 304, 305, 306, 599, 600, 601, 602, 509, 510, 511, 512, 513, 514, 515, 516, 517, 518, 519, 520, 521, 522, 523, 407, 408, 524, 525, 526, 527, 528, 529, 530, 531, 532, 494, 495, 496, 533, 534, 535, 536, 923, 924, 925, 926, 927, 928, 929, 959, 960, 961, 962, 963, 964, 965, 966, 967, 968, 973, 974, 975, 976] (by decide +kernel) (by decide +kernel)
set_option maxRecDepth 20000 in
theorem gL_law_X6_more : GoodIn wsL_law (wsV RL 61 RX6 yX6_more wsX6_more) := goodIn_app (goodIn_of _ (by decide +kernel)) ggL_law_X6_more
set_option maxRecDepth 20000 in
theorem ggL_law_X7_more : GoodIn wsL_law wsX7_more := goodIn_r _ [618, 371, 75, 76, 77, 78, 392, 393, 5, 394, 110, 111, 112, 113, 73, 607, 608, 609, 610, 541, 543, 544, 545, 546, 542, 83, 547, 548, 549, 550, 551, 552, 553, 554, 80, 555, 556, 557, 558, 81, 559, 560, 561, 562, 437, 438, 439, 440, 563, 564, 565, 566, 567, 568, 569, 570, 571, 572, 573, 574, 74, 426, 427, 428, 429, 79, 430, 431, 432, 433, 434, 435, 436, 501, 502, 503, 504, 441, 442, 443, 444, 422, 423, 424, 425, 930, 931, 932, 933, 934, 935, 936, 937, 938, 939, 940, 941, 942, 943, 944, 945, 946, 947, 948, 949, 950, 951, 952, 953, 954, 955, 956, 957, 958] (by decide +kernel) (by decide +kernel)
set_option maxRecDepth 20000 in
theorem gL_law_X7_more : GoodIn wsL_law (wsV RL 64 RX7 yX7_more wsX7_more) := goodIn_app (goodIn_of _ (by decide +kernel)) ggL_law_X7_more
set_option maxRecDepth 20000 in
theorem ggL_law_X6_farOut : GoodIn wsL_law wsX6_farOut := goodIn_r _ [622, 15, 16, 311, 14, 312, 313, 49, 399, 400, 401, 38, 95, 96, 97, 2, 98, 28, 262, 263, 264, 32, 265, 266, 267, 268, 33, 34, 35, 36, 37, 45, 269, 48, 270, 271, 54, 272, 55, 56, 57, 599, 600, 601, 602, 509, 510, 511, 512, 513, 514, 515, 516, 517, 518, 519, 520, 521, 522, 523, 407, 188, 408, 524, 525, 526, 527, 528, 529, 530, 531, 532, 494, 495, 496, 291, 292, 204, 293, 533, 534, 535, 536, 923, 924, 925, 926, 927, 928, 929, 959, 960, 961, 962, 963, 964, 965, 966, 967, 968, 973, 974, 975, 976] (by decide +kernel) (by decide +kernel)
set_option maxRecDepth 20000 in
theorem gL_law_X6_farOut : GoodIn wsL_law (wsV RL 65 RX6 yX6_farOut wsX6_farOut) := goodIn_app (goodIn_of _ (by decide +kernel)) ggL_law_X6_farOut
set_option maxRecDepth 20000 in
theorem ggL_law_X7_farOut : GoodIn wsL_law wsX7_farOut := goodIn_r _ [626, 77, 392, 393, 5, 394, 413, 414, 415, 416, 371, 110, 111, 112, 113, 73, 607, 608, 609, 610, 541, 543, 544, 545, 546, 542, 83, 547, 548, 549, 550, 551, 552, 553, 554, 80, 555, 556, 557, 558, 81, 559, 560, 561, 562, 437, 438, 439, 440, 75, 563, 564, 565, 566, 567, 568, 569, 570, 571, 572, 573, 574, 74, 426, 427, 428, 429, 79, 430, 431, 432, 433, 76, 434, 435, 436, 501, 502, 503, 504, 78, 441, 442, 443, 444, 422, 423, 424, 425, 930, 931, 932, 933, 934, 935, 936, 937, 938, 939, 940, 941, 942, 943, 944, 945, 946, 947, 948, 949, 950, 951, 952, 953, 954, 955, 956, 957, 958] (by decide +kernel) (by decide +kernel)
set_option maxRecDepth 20000 in
theorem gL_law_X7_farOut : GoodIn wsL_law (wsV RL 68 RX7 yX7_farOut wsX7_farOut) := goodIn_app (goodIn_of _ (by decide +kernel)) ggL_law_X7_farOut
set_option maxRecDepth 20000 in
theorem ggL_law_X6_leaning : GoodIn wsL_law wsX6_leaning := goodIn_r _ [630, 15, 631, 16, 311, 14, 312, 313, 49, 402, 403, 404, 2, 405, 406, 95, 96, 97, 98, 28, 262, 263, 264, 32, 265, 266, 267, 268, 33, 34, 35, 36, 37, 38, 45, 269, 48, 270, 271, 54, 272, 55, 56, 57, 632, 633, 634, 582, 207, 204, 208, 635, 203, 205, 579, 580, 581, 583, 584, 585, 586, 533, 534, 535, 536, 532, 494, 495, 496, 291, 292, 293, 923, 924, 925, 926, 927, 928, 929, 959, 960, 961, 962, 963, 964, 965, 966, 967, 968, 973, 974, 975, 976] (by decide +kernel) (by decide +kernel)
set_option maxRecDepth 20000 in
theorem gL_law_X6_leaning : GoodIn wsL_law (wsV RL 69 RX6 yX6_leaning wsX6_leaning) := goodIn_app (goodIn_of _ (by decide +kernel)) ggL_law_X6_leaning
set_option maxRecDepth 20000 in
theorem ggL_law_X7_leaning : GoodIn wsL_law wsX7_leaning := goodIn_r _ [639, 392, 393, 5, 394, 417, 418, 419, 420, 73, 421, 640, 641, 642, 643, 371, 78, 365, 366, 367, 368, 369, 370, 74, 75, 76, 77, 79, 80, 81, 82, 83, 372, 373, 374, 375, 88, 376, 377, 378, 379, 644, 645, 646, 591, 592, 593, 594, 551, 552, 553, 554, 571, 572, 573, 574, 426, 427, 428, 429, 430, 431, 432, 433, 434, 435, 436, 501, 502, 503, 504, 441, 442, 443, 444, 422, 423, 424, 425, 930, 931, 932, 933, 934, 935, 936, 937, 938, 939, 940, 941, 942, 943, 944, 945, 946, 947, 948, 949, 950, 951, 952, 953, 954, 955, 956, 957, 958] (by decide +kernel) (by decide +kernel)
set_option maxRecDepth 20000 in
theorem gL_law_X7_leaning : GoodIn wsL_law (wsV RL 72 RX7 yX7_leaning wsX7_leaning) := goodIn_app (goodIn_of _ (by decide +kernel)) ggL_law_X7_leaning
set_option maxRecDepth 20000 in
theorem ggL_law_X6_enough : GoodIn wsL_law wsX6_enough := goodIn_r _ [650, 15, 16, 482, 311, 14, 312, 313, 49, 95, 96, 97, 2, 98, 28, 262, 263, 264, 32, 265, 266, 267, 268, 33, 34, 35, 36, 37, 38, 45, 269, 48, 270, 271, 54, 272, 55, 56, 57, 599, 600, 601, 602, 509, 510, 511, 512, 513, 514, 515, 516, 517, 518, 519, 520, 521, 522, 523, 407, 188, 408, 524, 525, 526, 527, 528, 529, 530, 531, 532, 494, 495, 496, 291, 292, 204, 293, 533, 534, 535, 536, 923, 924, 925, 926, 927, 928, 929, 959, 960, 961, 962, 963, 964, 965, 966, 967, 968, 973, 974, 975, 976] (by decide +kernel) (by decide +kernel)
set_option maxRecDepth 20000 in
theorem gL_law_X6_enough : GoodIn wsL_law (wsV RL 73 RX6 yX6_enough wsX6_enough) := goodIn_app (goodIn_of _ (by decide +kernel)) ggL_law_X6_enough
set_option maxRecDepth 20000 in
theorem ggL_law_X7_enough : GoodIn wsL_law wsX7_enough := goodIn_r _ [654, 74, 392, 393, 5, 394, 110, 111, 112, 113, 73, 607, 608, 609, 610, 541, 543, 544, 545, 546, 542, 83, 547, 548, 549, 550, 371, 551, 552, 553, 554, 80, 555, 556, 557, 558, 81, 559, 560, 561, 562, 437, 438, 439, 440, 75, 563, 564, 565, 566, 77, 567, 568, 569, 570, 571, 572, 573, 574, 426, 427, 428, 429, 79, 430, 431, 432, 433, 76, 434, 435, 436, 501, 502, 503, 504, 78, 441, 442, 443, 444, 422, 423, 424, 425, 930, 931, 932, 933, 934, 935, 936, 937, 938, 939, 940, 941, 942, 943, 944, 945, 946, 947, 948, 949, 950, 951, 952, 953, 954, 955, 956, 957, 958] (by decide +kernel) (by decide +kernel)
set_option maxRecDepth 20000 in
theorem gL_law_X7_enough : GoodIn wsL_law (wsV RL 76 RX7 yX7_enough wsX7_enough) := goodIn_app (goodIn_of _ (by decide +kernel)) ggL_law_X7_enough
set_option maxRecDepth 20000 in
theorem ggL_law_X6_home : GoodIn wsL_law wsX6_home := goodIn_r _ [658, 15, 311, 14, 312, 313, 49, 95, 96, 97, 2, 98, 28, 659, 660, 661, 662, 599, 600, 601, 602, 509, 510, 511, 512, 513, 514, 515, 38, 516, 517, 518, 519, 520, 521, 522, 523, 32, 407, 188, 408, 524, 525, 526, 527, 34, 528, 529, 530, 531, 532, 494, 495, 496, 37, 35, 291, 292, 204, 293, 533, 534, 535, 536, 36, 45, 663, 48, 664, 665, 57, 56, 923, 924, 925, 926, 927, 928, 929, 959, 960, 961, 962, 963, 964, 965, 966, 967, 968, 973, 974, 975, 976] (by decide +kernel) (by decide +kernel)
set_option maxRecDepth 20000 in
theorem gL_law_X6_home : GoodIn wsL_law (wsV RL 77 RX6 yX6_home wsX6_home) := goodIn_app (goodIn_of _ (by decide +kernel)) ggL_law_X6_home
set_option maxRecDepth 20000 in
theorem ggL_law_X7_home : GoodIn wsL_law wsX7_home := goodIn_r _ [669, 392, 393, 5, 394, 670, 671, 672, 673, 607, 608, 609, 610, 541, 543, 544, 545, 546, 542, 83, 547, 548, 549, 550, 371, 551, 552, 553, 554, 80, 555, 556, 557, 558, 81, 559, 560, 561, 562, 437, 438, 439, 440, 75, 563, 564, 565, 566, 77, 567, 568, 569, 570, 571, 572, 573, 574, 74, 426, 427, 428, 429, 79, 430, 431, 432, 433, 76, 434, 435, 436, 501, 502, 503, 504, 78, 441, 442, 443, 444, 422, 423, 424, 425, 674, 675, 676, 677, 82, 110, 111, 112, 113, 73, 930, 931, 932, 933, 934, 935, 936, 937, 938, 939, 940, 941, 942, 943, 944, 945, 946, 947, 948, 949, 950, 951, 952, 953, 954, 955, 956, 957, 958] (by decide +kernel) (by decide +kernel)
set_option maxRecDepth 20000 in
theorem gL_law_X7_home : GoodIn wsL_law (wsV RL 80 RX7 yX7_home wsX7_home) := goodIn_app (goodIn_of _ (by decide +kernel)) ggL_law_X7_home
set_option maxRecDepth 20000 in
theorem ggL_law_X6_which : GoodIn wsL_law wsX6_which := goodIn_r _ [681, 659, 660, 661, 2, 662, 15, 599, 14, 600, 601, 602, 509, 510, 511, 49, 512, 513, 514, 515, 38, 516, 517, 518, 519, 520, 521, 522, 523, 32, 407, 188, 408, 524, 525, 526, 527, 34, 528, 529, 530, 531, 532, 494, 495, 496, 37, 35, 291, 292, 204, 293, 533, 534, 535, 536, 36, 45, 663, 48, 664, 665, 57, 56, 923, 924, 925, 926, 927, 928, 929, 959, 960, 961, 962, 963, 964, 965, 966, 967, 968, 973, 974, 975, 976] (by decide +kernel) (by decide +kernel)
set_option maxRecDepth 20000 in
theorem gL_law_X6_which : GoodIn wsL_law (wsV RL 81 RX6 yX6_which wsX6_which) := goodIn_app (goodIn_of _ (by decide +kernel)) ggL_law_X6_which
set_option maxRecDepth 20000 in
theorem ggL_law_X7_which : GoodIn wsL_law wsX7_which := goodIn_r _ [685, 670, 671, 672, 5, 673, 607, 608, 609, 610, 541, 543, 544, 545, 546, 542, 83, 547, 548, 549, 550, 371, 551, 552, 553, 554, 80, 555, 556, 557, 558, 81, 559, 560, 561, 562, 437, 438, 439, 440, 75, 563, 564, 565, 566, 77, 567, 568, 569, 570, 571, 572, 573, 574, 74, 426, 427, 428, 429, 79, 430, 431, 432, 433, 76, 434, 435, 436, 501, 502, 503, 504, 78, 441, 442, 443, 444, 422, 423, 424, 425, 674, 675, 676, 677, 82, 930, 931, 932, 933, 934, 935, 936, 937, 938, 939, 940, 941, 942, 943, 944, 945, 946, 947, 948, 949, 950, 951, 952, 953, 954, 955, 956, 957, 958] (by decide +kernel) (by decide +kernel)
set_option maxRecDepth 20000 in
theorem gL_law_X7_which : GoodIn wsL_law (wsV RL 84 RX7 yX7_which wsX7_which) := goodIn_app (goodIn_of _ (by decide +kernel)) ggL_law_X7_which
set_option maxRecDepth 20000 in
theorem ggL_law_X6_pitching : GoodIn wsL_law wsX6_pitching := goodIn_r _ [689, 481, 482, 15, 95, 96, 97, 2, 98, 28, 690, 14, 691, 692, 693, 694, 695, 696, 38, 33, 923, 924, 925, 926, 927, 928, 929, 959, 960, 961, 962, 963, 964, 965, 966, 967, 968] (by decide +kernel) (by decide +kernel)
set_option maxRecDepth 20000 in
theorem gL_law_X6_pitching : GoodIn wsL_law (wsV RL 85 RX6 yX6_pitching wsX6_pitching) := goodIn_app (goodIn_of _ (by decide +kernel)) ggL_law_X6_pitching
set_option maxRecDepth 20000 in
theorem ggL_law_X7_pitching : GoodIn wsL_law wsX7_pitching := goodIn_r _ [700, 107, 108, 5, 109, 110, 111, 112, 113, 73, 701, 702, 703, 704, 705, 706, 707, 708, 371, 76, 930, 931, 932, 933, 934, 935, 936, 937, 938, 939, 940, 941, 942, 943, 944, 945, 946, 947, 948, 949, 950, 951, 952, 953, 954, 955, 956, 957, 958] (by decide +kernel) (by decide +kernel)
set_option maxRecDepth 20000 in
theorem gL_law_X7_pitching : GoodIn wsL_law (wsV RL 88 RX7 yX7_pitching wsX7_pitching) := goodIn_app (goodIn_of _ (by decide +kernel)) ggL_law_X7_pitching
set_option maxRecDepth 20000 in
theorem ggL_law_X6_quick : GoodIn wsL_law wsX6_quick := goodIn_r _ [712, 15, 713, 481, 482, 16, 714, 203, 204, 205, 311, 14, 312, 313, 49, 95, 96, 97, 2, 98, 28, 262, 263, 264, 32, 265, 266, 267, 268, 33, 34, 35, 36, 37, 38, 45, 269, 48, 270, 271, 54, 272, 55, 56, 57, 715, 716, 717, 635, 690, 691, 692, 693, 694, 695, 696, 599, 600, 601, 602, 509, 510, 511, 512, 513, 514, 515, 516, 517, 518, 519, 520, 521, 522, 523, 407, 188, 408, 524, 525, 526, 527, 528, 529, 530, 531, 532, 494, 495, 496, 291, 292, 293, 533, 534, 535, 536, 923, 924, 925, 926, 927, 928, 929, 959, 960, 961, 962, 963, 964, 965, 966, 967, 968, 973, 974, 975, 976] (by decide +kernel) (by decide +kernel)
set_option maxRecDepth 20000 in
theorem gL_law_X6_quick : GoodIn wsL_law (wsV RL 89 RX6 yX6_quick wsX6_quick) := goodIn_app (goodIn_of _ (by decide +kernel)) ggL_law_X6_quick
set_option maxRecDepth 20000 in
theorem ggL_law_X7_quick : GoodIn wsL_law wsX7_quick := goodIn_r _ [721, 392, 393, 5, 394, 110, 111, 112, 113, 73, 722, 723, 724, 725, 371, 74, 79, 76, 365, 366, 367, 368, 369, 370, 75, 77, 78, 80, 81, 82, 83, 372, 373, 374, 375, 88, 376, 377, 378, 379, 607, 608, 609, 610, 541, 543, 544, 545, 546, 542, 547, 548, 549, 550, 551, 552, 553, 554, 555, 556, 557, 558, 559, 560, 561, 562, 437, 438, 439, 440, 563, 564, 565, 566, 567, 568, 569, 570, 571, 572, 573, 574, 426, 427, 428, 429, 430, 431, 432, 433, 434, 435, 436, 501, 502, 503, 504, 441, 442, 443, 444, 422, 423, 424, 425, 701, 702, 703, 704, 705, 706, 707, 708, 930, 931, 932, 933, 934, 935, 936, 937, 938, 939, 940, 941, 942, 943, 944, 945, 946, 947, 948, 949, 950, 951, 952, 953, 954, 955, 956, 957, 958] (by decide +kernel) (by decide +kernel)
set_option maxRecDepth 20000 in
theorem gL_law_X7_quick : GoodIn wsL_law (wsV RL 92 RX7 yX7_quick wsX7_quick) := goodIn_app (goodIn_of _ (by decide +kernel)) ggL_law_X7_quick
set_option maxRecDepth 20000 in
theorem ggL_law_X6_rounds : GoodIn wsL_law wsX6_rounds := goodIn_r _ [729, 15, 730, 731, 732, 2, 733, 311, 14, 312, 313, 49, 599, 600, 601, 602, 509, 510, 511, 512, 513, 514, 515, 38, 516, 517, 518, 519, 520, 521, 522, 523, 32, 407, 188, 408, 524, 525, 526, 527, 34, 528, 529, 530, 531, 532, 494, 495, 496, 37, 35, 291, 292, 204, 293, 533, 534, 535, 536, 36, 45, 95, 96, 97, 98, 28, 734, 735, 736, 50, 635, 203, 205, 582, 207, 208, 737, 690, 691, 692, 693, 694, 695, 696, 33, 663, 48, 664, 665, 57, 56, 738, 739, 740, 741, 923, 924, 925, 926, 927, 928, 929, 959, 960, 961, 962, 963, 964, 965, 966, 967, 968, 973, 974, 975, 976] (by decide +kernel) (by decide +kernel)
set_option maxRecDepth 20000 in
theorem gL_law_X6_rounds : GoodIn wsL_law (wsV RL 93 RX6 yX6_rounds wsX6_rounds) := goodIn_app (goodIn_of _ (by decide +kernel)) ggL_law_X6_rounds
set_option maxRecDepth 20000 in
theorem ggL_law_X7_rounds : GoodIn wsL_law wsX7_rounds := goodIn_r _ [745, 746, 747, 748, 5, 749, 371, 392, 393, 394, 607, 608, 609, 610, 541, 543, 544, 545, 546, 542, 83, 547, 548, 549, 550, 551, 552, 553, 554, 80, 555, 556, 557, 558, 81, 559, 560, 561, 562, 437, 438, 439, 440, 75, 563, 564, 565, 566, 77, 567, 568, 569, 570, 571, 572, 573, 574, 74, 426, 427, 428, 429, 79, 430, 431, 432, 433, 76, 434, 435, 436, 501, 502, 503, 504, 78, 441, 442, 443, 444, 422, 423, 424, 425, 110, 111, 112, 113, 73, 750, 751, 752, 753, 89, 701, 702, 703, 704, 705, 706, 707, 708, 674, 675, 676, 677, 82, 930, 931, 932, 933, 934, 935, 936, 937, 938, 939, 940, 941, 942, 943, 944, 945, 946, 947, 948, 949, 950, 951, 952, 953, 954, 955, 956, 957, 958] (by decide +kernel) (by decide +kernel)
set_option maxRecDepth 20000 in
theorem gL_law_X7_rounds : GoodIn wsL_law (wsV RL 96 RX7 yX7_rounds wsX7_rounds) := goodIn_app (goodIn_of _ (by decide +kernel)) ggL_law_X7_rounds
set_option maxRecDepth 20000 in
theorem ggL_law_X6_worth : GoodIn wsL_law wsX6_worth := goodIn_r _ [757, 15, 730, 731, 732, 2, 733, 311, 14, 312, 313, 49, 599, 600, 601, 602, 509, 510, 511, 512, 513, 514, 515, 38, 516, 517, 518, 519, 520, 521, 522, 523, 32, 407, 188, 408, 524, 525, 526, 527, 34, 528, 529, 530, 531, 532, 494, 495, 496, 37, 35, 291, 292, 204, 293, 533, 534, 535, 536, 36, 45, 402, 403, 404, 405, 406, 95, 96, 97, 98, 28, 734, 735, 736, 50, 635, 203, 205, 582, 207, 208, 737, 690, 691, 692, 693, 694, 695, 696, 33, 663, 48, 664, 665, 57, 56, 738, 739, 740, 741, 923, 924, 925, 926, 927, 928, 929, 959, 960, 961, 962, 963, 964, 965, 966, 967, 968, 973, 974, 975, 976] (by decide +kernel) (by decide +kernel)
set_option maxRecDepth 20000 in
theorem gL_law_X6_worth : GoodIn wsL_law (wsV RL 97 RX6 yX6_worth wsX6_worth) := goodIn_app (goodIn_of _ (by decide +kernel)) ggL_law_X6_worth
set_option maxRecDepth 20000 in
theorem ggL_law_X7_worth : GoodIn wsL_law wsX7_worth := goodIn_r _ [761, 746, 747, 748, 5, 749, 371, 392, 393, 394, 607, 608, 609, 610, 541, 543, 544, 545, 546, 542, 83, 547, 548, 549, 550, 551, 552, 553, 554, 80, 555, 556, 557, 558, 81, 559, 560, 561, 562, 437, 438, 439, 440, 75, 563, 564, 565, 566, 77, 567, 568, 569, 570, 571, 572, 573, 574, 74, 426, 427, 428, 429, 79, 430, 431, 432, 433, 76, 434, 435, 436, 501, 502, 503, 504, 78, 441, 442, 443, 444, 422, 423, 424, 425, 417, 418, 419, 420, 73, 421, 750, 751, 752, 753, 89, 701, 702, 703, 704, 705, 706, 707, 708, 674, 675, 676, 677, 82, 930, 931, 932, 933, 934, 935, 936, 937, 938, 939, 940, 941, 942, 943, 944, 945, 946, 947, 948, 949, 950, 951, 952, 953, 954, 955, 956, 957, 958] (by decide +kernel) (by decide +kernel)
set_option maxRecDepth 20000 in
theorem gL_law_X7_worth : GoodIn wsL_law (wsV RL 100 RX7 yX7_worth wsX7_worth) := goodIn_app (goodIn_of _ (by decide +kernel)) ggL_law_X7_worth
set_option maxRecDepth 20000 in
theorem ggL_law_X6_thunder : GoodIn wsL_law wsX6_thunder := goodIn_r _ [765, 15, 766, 207, 204, 208, 311, 14, 312, 313, 49, 767, 768, 769, 2, 770, 771, 95, 96, 97, 98, 28, 663, 48, 664, 665, 57, 56, 772, 773, 774, 775, 776, 777, 923, 924, 925, 926, 927, 928, 929, 959, 960, 961, 962, 963, 964, 965, 966, 967, 968, 973, 974, 975, 976] (by decide +kernel) (by decide +kernel)
set_option maxRecDepth 20000 in
theorem gL_law_X6_thunder : GoodIn wsL_law (wsV RL 101 RX6 yX6_thunder wsX6_thunder) := goodIn_app (goodIn_of _ (by decide +kernel)) ggL_law_X6_thunder
set_option maxRecDepth 20000 in
theorem ggL_law_X7_thunder : GoodIn wsL_law wsX7_thunder := goodIn_r _ [781, 782, 392, 393, 5, 394, 107, 108, 109, 355, 356, 357, 783, 784, 785, 786, 73, 787, 674, 675, 676, 677, 83, 82, 788, 789, 790, 930, 931, 932, 933, 934, 935, 936, 937, 938, 939, 940, 941, 942, 943, 944, 945, 946, 947, 948, 949, 950, 951, 952, 953, 954, 955, 956, 957, 958] (by decide +kernel) (by decide +kernel)
set_option maxRecDepth 20000 in
theorem gL_law_X7_thunder : GoodIn wsL_law (wsV RL 105 RX7 yX7_thunder wsX7_thunder) := goodIn_app (goodIn_of _ (by decide +kernel)) ggL_law_X7_thunder
set_option maxRecDepth 20000 in
theorem ggL_law_X6_fell : GoodIn wsL_law wsX6_fell := goodIn_r _ [794, 15, 449, 14, 450, 451, 49, 452, 311, 312, 313, 95, 96, 97, 2, 98, 28, 517, 518, 519, 38, 520, 521, 522, 523, 32, 407, 188, 408, 524, 525, 526, 527, 34, 528, 529, 530, 531, 532, 494, 495, 496, 37, 35, 291, 292, 204, 293, 533, 534, 535, 536, 36, 45, 923, 924, 925, 926, 927, 928, 929, 959, 960, 961, 962, 963, 964, 965, 966, 967, 968, 973, 974, 975, 976] (by decide +kernel) (by decide +kernel)
set_option maxRecDepth 20000 in
theorem gL_law_X6_fell : GoodIn wsL_law (wsV RL 106 RX6 yX6_fell wsX6_fell) := goodIn_app (goodIn_of _ (by decide +kernel)) ggL_law_X6_fell
set_option maxRecDepth 20000 in
theorem ggL_law_X7_fell : GoodIn wsL_law wsX7_fell := goodIn_r _ [798, 457, 458, 459, 5, 460, 83, 392, 393, 394, 547, 548, 549, 550, 371, 551, 552, 553, 554, 80, 555, 556, 557, 558, 81, 559, 560, 561, 562, 437, 438, 439, 440, 75, 563, 564, 565, 566, 77, 567, 568, 569, 570, 571, 572, 573, 574, 74, 426, 427, 428, 429, 79, 430, 431, 432, 433, 76, 434, 435, 436, 501, 502, 503, 504, 78, 441, 442, 443, 444, 422, 423, 424, 425, 110, 111, 112, 113, 73, 930, 931, 932, 933, 934, 935, 936, 937, 938, 939, 940, 941, 942, 943, 944, 945, 946, 947, 948, 949, 950, 951, 952, 953, 954, 955, 956, 957, 958] (by decide +kernel) (by decide +kernel)
set_option maxRecDepth 20000 in
theorem gL_law_X7_fell : GoodIn wsL_law (wsV RL 109 RX7 yX7_fell wsX7_fell) := goodIn_app (goodIn_of _ (by decide +kernel)) ggL_law_X7_fell
set_option maxRecDepth 20000 in
theorem ggL_law_X6_whose : GoodIn wsL_law wsX6_whose := goodIn_r _ [802, 15, 713, 449, 14, 450, 451, 49, 452, 311, 312, 313, 95, 96, 97, 2, 98, 28, 494, 495, 496, 37, 35, 291, 292, 204, 293, 34, 534, 535, 536, 36, 45, 517, 518, 519, 38, 520, 521, 522, 523, 32, 407, 188, 408, 524, 525, 526, 527, 528, 529, 530, 531, 532, 533, 923, 924, 925, 926, 927, 928, 929, 959, 960, 961, 962, 963, 964, 965, 966, 967, 968, 973, 974, 975, 976] (by decide +kernel) (by decide +kernel)
set_option maxRecDepth 20000 in
theorem gL_law_X6_whose : GoodIn wsL_law (wsV RL 110 RX6 yX6_whose wsX6_whose) := goodIn_app (goodIn_of _ (by decide +kernel)) ggL_law_X6_whose
set_option maxRecDepth 20000 in
theorem ggL_law_X7_whose : GoodIn wsL_law wsX7_whose := goodIn_r _ [806, 371, 457, 458, 459, 5, 460, 83, 392, 393, 394, 110, 111, 112, 113, 73, 551, 552, 553, 554, 80, 555, 556, 557, 558, 81, 559, 560, 561, 562, 437, 438, 439, 440, 75, 563, 564, 565, 566, 77, 567, 568, 569, 570, 571, 572, 573, 574, 74, 426, 427, 428, 429, 79, 430, 431, 432, 433, 76, 434, 435, 436, 501, 502, 503, 504, 78, 441, 442, 443, 444, 422, 423, 424, 425, 930, 931, 932, 933, 934, 935, 936, 937, 938, 939, 940, 941, 942, 943, 944, 945, 946, 947, 948, 949, 950, 951, 952, 953, 954, 955, 956, 957, 958] (by decide +kernel) (by decide +kernel)
set_option maxRecDepth 20000 in
theorem gL_law_X7_whose : GoodIn wsL_law (wsV RL 113 RX7 yX7_whose wsX7_whose) := goodIn_app (goodIn_of _ (by decide +kernel)) ggL_law_X7_whose
set_option maxRecDepth 20000 in
theorem ggL_law_X6_boundBy : GoodIn wsL_law wsX6_boundBy := goodIn_r _ [810, 26, 95, 96, 97, 2, 98, 28, 811, 25, 812, 813, 68, 67, 814, 815, 816, 817, 818, 819, 820, 821, 822, 823, 923, 924, 925, 926, 927, 928, 929, 971, 972] (by decide +kernel) (by decide +kernel)
set_option maxRecDepth 20000 in
theorem gL_law_X6_boundBy : GoodIn wsL_law (wsV RL 114 RX6 yX6_boundBy wsX6_boundBy) := goodIn_app (goodIn_of _ (by decide +kernel)) ggL_law_X6_boundBy
set_option maxRecDepth 20000 in
theorem ggL_law_X7_boundBy : GoodIn wsL_law wsX7_boundBy := goodIn_r _ [827, 107, 108, 5, 109, 355, 356, 357, 828, 829, 830, 831, 832, 90, 110, 111, 112, 113, 73, 833, 834, 835, 836, 930, 931, 932, 933, 934, 935, 936, 937, 938, 939, 940, 941, 942, 943, 944, 945, 946, 947, 948, 949, 950, 951, 952, 953, 954, 955, 956, 957, 958] (by decide +kernel) (by decide +kernel)
set_option maxRecDepth 20000 in
theorem gL_law_X7_boundBy : GoodIn wsL_law (wsV RL 117 RX7 yX7_boundBy wsX7_boundBy) := goodIn_app (goodIn_of _ (by decide +kernel)) ggL_law_X7_boundBy
set_option maxRecDepth 20000 in
theorem ggL_law_X6_row : GoodIn wsL_law wsX6_row := goodIn_r _ [840, 26, 95, 96, 97, 2, 98, 28, 841, 25, 842, 843, 68, 67, 923, 924, 925, 926, 927, 928, 929, 971, 972] (by decide +kernel) (by decide +kernel)
set_option maxRecDepth 20000 in
theorem gL_law_X6_row : GoodIn wsL_law (wsV RL 118 RX6 yX6_row wsX6_row) := goodIn_app (goodIn_of _ (by decide +kernel)) ggL_law_X6_row
set_option maxRecDepth 20000 in
theorem ggL_law_X7_row : GoodIn wsL_law wsX7_row := goodIn_r _ [847, 832, 90, 107, 108, 5, 109, 110, 111, 112, 113, 73, 930, 931, 932, 933, 934, 935, 936, 937, 938, 939, 940, 941, 942, 943, 944, 945, 946, 947, 948, 949, 950, 951, 952, 953, 954, 955, 956, 957, 958] (by decide +kernel) (by decide +kernel)
set_option maxRecDepth 20000 in
theorem gL_law_X7_row : GoodIn wsL_law (wsV RL 121 RX7 yX7_row wsX7_row) := goodIn_app (goodIn_of _ (by decide +kernel)) ggL_law_X7_row
set_option maxRecDepth 20000 in
theorem ggL_law_X6_judge : GoodIn wsL_law wsX6_judge := goodIn_r _ [851, 15, 16, 26, 311, 14, 312, 313, 49, 95, 96, 97, 2, 98, 28, 262, 263, 264, 32, 265, 266, 267, 268, 33, 34, 35, 36, 37, 38, 45, 269, 48, 270, 271, 54, 272, 55, 56, 57, 852, 853, 854, 855, 509, 510, 511, 512, 513, 514, 515, 516, 517, 518, 519, 520, 521, 522, 523, 407, 188, 408, 524, 525, 526, 527, 528, 529, 530, 531, 532, 494, 495, 496, 291, 292, 204, 293, 533, 534, 535, 536, 856, 25, 857, 858, 68, 923, 924, 925, 926, 927, 928, 929, 971, 972, 959, 960, 961, 962, 963, 964, 965, 966, 967, 968, 973, 974, 975, 976] (by decide +kernel) (by decide +kernel)
set_option maxRecDepth 20000 in
theorem gL_law_X6_judge : GoodIn wsL_law (wsV RL 122 RX6 yX6_judge wsX6_judge) := goodIn_app (goodIn_of _ (by decide +kernel)) ggL_law_X6_judge
set_option maxRecDepth 20000 in
theorem ggL_law_X7_judge : GoodIn wsL_law wsX7_judge := goodIn_r _ [862, 832, 74, 542, 90, 392, 393, 5, 394, 110, 111, 112, 113, 73, 543, 544, 545, 546, 541, 83, 547, 548, 549, 550, 371, 551, 552, 553, 554, 80, 555, 556, 557, 558, 81, 559, 560, 561, 562, 437, 438, 439, 440, 75, 563, 564, 565, 566, 77, 567, 568, 569, 570, 571, 572, 573, 574, 426, 427, 428, 429, 79, 430, 431, 432, 433, 76, 434, 435, 436, 501, 502, 503, 504, 78, 441, 442, 443, 444, 422, 423, 424, 425, 930, 931, 932, 933, 934, 935, 936, 937, 938, 939, 940, 941, 942, 943, 944, 945, 946, 947, 948, 949, 950, 951, 952, 953, 954, 955, 956, 957, 958] (by decide +kernel) (by decide +kernel)
set_option maxRecDepth 20000 in
theorem gL_law_X7_judge : GoodIn wsL_law (wsV RL 125 RX7 yX7_judge wsX7_judge) := goodIn_app (goodIn_of _ (by decide +kernel)) ggL_law_X7_judge
set_option maxRecDepth 20000 in
theorem ggL_law_X6_lots : GoodIn wsL_law wsX6_lots := goodIn_r _ [866, 15, 16, 311, 14, 312, 313, 49, 95, 96, 97, 2, 98, 28, 262, 263, 264, 32, 265, 266, 267, 268, 33, 34, 35, 36, 37, 38, 45, 269, 48, 270, 271, 54, 272, 55, 56, 57, 867, 868, 869, 870, 871, 872, 873, 874, 875, 876, 877, 878, 599, 600, 601, 602, 509, 510, 511, 512, 513, 514, 515, 516, 517, 518, 519, 520, 521, 522, 523, 407, 188, 408, 524, 525, 526, 527, 528, 529, 530, 531, 532, 494, 495, 496, 291, 292, 204, 293, 533, 534, 535, 536, 923, 924, 925, 926, 927, 928, 929, 959, 960, 961, 962, 963, 964, 965, 966, 967, 968, 973, 974, 975, 976] (by decide +kernel) (by decide +kernel)
set_option maxRecDepth 20000 in
theorem gL_law_X6_lots : GoodIn wsL_law (wsV RL 126 RX6 yX6_lots wsX6_lots) := goodIn_app (goodIn_of _ (by decide +kernel)) ggL_law_X6_lots
set_option maxRecDepth 20000 in
theorem ggL_law_X7_lots : GoodIn wsL_law wsX7_lots := goodIn_r _ [882, 883, 371, 77, 78, 392, 393, 5, 394, 107, 108, 109, 110, 111, 112, 113, 73, 365, 366, 367, 368, 369, 370, 74, 75, 76, 79, 80, 81, 82, 83, 372, 373, 374, 375, 88, 376, 377, 378, 379, 884, 885, 886, 887, 888, 889, 890, 607, 608, 609, 610, 541, 543, 544, 545, 546, 542, 547, 548, 549, 550, 551, 552, 553, 554, 555, 556, 557, 558, 559, 560, 561, 562, 437, 438, 439, 440, 563, 564, 565, 566, 567, 568, 569, 570, 571, 572, 573, 574, 426, 427, 428, 429, 430, 431, 432, 433, 434, 435, 436, 501, 502, 503, 504, 441, 442, 443, 444, 422, 423, 424, 425, 930, 931, 932, 933, 934, 935, 936, 937, 938, 939, 940, 941, 942, 943, 944, 945, 946, 947, 948, 949, 950, 951, 952, 953, 954, 955, 956, 957, 958] (by decide +kernel) (by decide +kernel)
set_option maxRecDepth 20000 in
theorem gL_law_X7_lots : GoodIn wsL_law (wsV RL 129 RX7 yX7_lots wsX7_lots) := goodIn_app (goodIn_of _ (by decide +kernel)) ggL_law_X7_lots
set_option maxRecDepth 20000 in
theorem ggL_law_X6_image : GoodIn wsL_law wsX6_image := goodIn_r _ [894, 17, 15, 18, 262, 14, 263, 264, 32, 265, 266, 267, 268, 33, 34, 35, 36, 37, 38, 45, 49, 269, 48, 270, 271, 54, 272, 55, 56, 57, 923, 924, 925, 926, 927, 928, 929, 959, 960, 961, 962, 963, 964, 965, 966, 967, 968, 973, 974, 975, 976] (by decide +kernel) (by decide +kernel)
set_option maxRecDepth 20000 in
theorem gL_law_X6_image : GoodIn wsL_law (wsV RL 130 RX6 yX6_image wsX6_image) := goodIn_app (goodIn_of _ (by decide +kernel)) ggL_law_X6_image
set_option maxRecDepth 20000 in
theorem ggL_law_X7_image : GoodIn wsL_law wsX7_image := goodIn_r _ [898, 899, 371, 365, 366, 367, 5, 368, 369, 370, 74, 75, 76, 77, 78, 79, 80, 81, 82, 83, 372, 373, 374, 375, 88, 376, 377, 378, 379, 930, 931, 932, 933, 934, 935, 936, 937, 938, 939, 940, 941, 942, 943, 944, 945, 946, 947, 948, 949, 950, 951, 952, 953, 954, 955, 956, 957, 958] (by decide +kernel) (by decide +kernel)
set_option maxRecDepth 20000 in
theorem gL_law_X7_image : GoodIn wsL_law (wsV RL 133 RX7 yX7_image wsX7_image) := goodIn_app (goodIn_of _ (by decide +kernel)) ggL_law_X7_image
set_option maxRecDepth 20000 in
theorem ggL_law_X6_on : GoodIn wsL_law wsX6_on := goodIn_r _ [903, 18, 15, 17, 95, 96, 97, 2, 98, 28, 262, 14, 263, 264, 32, 265, 266, 267, 268, 33, 34, 35, 36, 37, 38, 45, 49, 269, 48, 270, 271, 54, 272, 55, 56, 57, 923, 924, 925, 926, 927, 928, 929, 959, 960, 961, 962, 963, 964, 965, 966, 967, 968, 973, 974, 975, 976] (by decide +kernel) (by decide +kernel)
set_option maxRecDepth 20000 in
theorem gL_law_X6_on : GoodIn wsL_law (wsV RL 134 RX6 yX6_on wsX6_on) := goodIn_app (goodIn_of _ (by decide +kernel)) ggL_law_X6_on
set_option maxRecDepth 20000 in
theorem ggL_law_X7_on : GoodIn wsL_law wsX7_on := goodIn_r _ [907, 899, 371, 110, 111, 112, 5, 113, 73, 365, 366, 367, 368, 369, 370, 74, 75, 76, 77, 78, 79, 80, 81, 82, 83, 372, 373, 374, 375, 88, 376, 377, 378, 379, 930, 931, 932, 933, 934, 935, 936, 937, 938, 939, 940, 941, 942, 943, 944, 945, 946, 947, 948, 949, 950, 951, 952, 953, 954, 955, 956, 957, 958] (by decide +kernel) (by decide +kernel)
set_option maxRecDepth 20000 in
theorem gL_law_X7_on : GoodIn wsL_law (wsV RL 137 RX7 yX7_on wsX7_on) := goodIn_app (goodIn_of _ (by decide +kernel)) ggL_law_X7_on
set_option maxRecDepth 20000 in
theorem ggL_law_X6_count : GoodIn wsL_law wsX6_count := goodIn_r _ [911, 15, 26, 22, 28, 521, 14, 522, 523, 38, 32, 407, 188, 408, 529, 530, 531, 34, 524, 525, 526, 527, 912, 913, 914, 37, 694, 695, 696, 33, 923, 924, 925, 926, 927, 928, 929, 959, 960, 961, 962, 963, 964, 965, 966, 967, 968, 973, 974, 975, 976, 971, 972, 969, 970] (by decide +kernel) (by decide +kernel)
set_option maxRecDepth 20000 in
theorem gL_law_X6_count : GoodIn wsL_law (wsV RL 138 RX6 yX6_count wsX6_count) := goodIn_app (goodIn_of _ (by decide +kernel)) ggL_law_X6_count
set_option maxRecDepth 20000 in
theorem ggL_law_X7_count : GoodIn wsL_law wsX7_count := goodIn_r _ [918, 73, 371, 83, 74, 832, 106, 355, 356, 5, 357, 559, 560, 561, 562, 437, 438, 439, 440, 75, 563, 564, 565, 566, 77, 567, 568, 569, 570, 919, 920, 921, 922, 441, 442, 443, 444, 422, 423, 424, 425, 76, 705, 706, 707, 708, 930, 931, 932, 933, 934, 935, 936, 937, 938, 939, 940, 941, 942, 943, 944, 945, 946, 947, 948, 949, 950, 951, 952, 953, 954, 955, 956, 957, 958] (by decide +kernel) (by decide +kernel)
set_option maxRecDepth 20000 in
theorem gL_law_X7_count : GoodIn wsL_law (wsV RL 141 RX7 yX7_count wsX7_count) := goodIn_app (goodIn_of _ (by decide +kernel)) ggL_law_X7_count
