set_option maxRecDepth 20000 in
theorem ggL_law_X7_trade : GoodIn wsL_law wsX7_trade := goodIn_r _ [295, 242, 243, 5, 244, 165, 166, 167, 168, 169, 170, 171, 121, 172, 296, 297, 298, 299, 245, 246, 247, 248, 118, 134, 135, 136, 137, 958, 959, 960, 961, 962, 963, 964, 965, 966, 967, 968, 969, 970, 971, 972, 973, 974, 975, 976, 977, 978, 979, 980, 981] (by decide +kernel) (by decide +kernel)
set_option maxRecDepth 20000 in
theorem gL_law_X7_trade : GoodIn wsL_law (wsV RL 43 RX7 yX7_trade wsX7_trade) := goodIn_app (goodIn_of _ (by decide +kernel)) ggL_law_X7_trade
set_option maxRecDepth 20000 in
theorem ggL_law_X6_leash : GoodIn wsL_law wsX6_leash := goodIn_r _ [303, 16, 304, 155, 156, 2, 157, 147, 148, 149, 150, 151, 152, 153, 41, 154, 943, 944, 945, 946, 947, 948, 949, 950, 951, 952, 953, 954, 955, 956, 957, 982, 983, 984, 985, 986, 987, 988, 989, 990, 991, 992, 993, 994, 995, 996, 997, 998] (by decide +kernel) (by decide +kernel)
set_option maxRecDepth 20000 in
theorem gL_law_X6_leash : GoodIn wsL_law (wsV RL 44 RX6 yX6_leash wsX6_leash) := goodIn_app (goodIn_of _ (by decide +kernel)) ggL_law_X6_leash
set_option maxRecDepth 20000 in
theorem ggL_law_X7_leash : GoodIn wsL_law wsX7_leash := goodIn_r _ [308, 242, 243, 5, 244, 165, 166, 167, 173, 174, 175, 176, 118, 168, 169, 170, 171, 121, 172, 958, 959, 960, 961, 962, 963, 964, 965, 966, 967, 968, 969, 970, 971, 972, 973, 974, 975, 976, 977, 978, 979, 980, 981] (by decide +kernel) (by decide +kernel)
set_option maxRecDepth 20000 in
theorem gL_law_X7_leash : GoodIn wsL_law (wsV RL 47 RX7 yX7_leash wsX7_leash) := goodIn_app (goodIn_of _ (by decide +kernel)) ggL_law_X7_leash
set_option maxRecDepth 20000 in
theorem ggL_law_X6_pig : GoodIn wsL_law wsX6_pig := goodIn_r _ [312, 16, 313, 314, 144, 145, 2, 146, 147, 148, 149, 150, 151, 152, 153, 41, 154, 943, 944, 945, 946, 947, 948, 949, 950, 951, 952, 953, 954, 955, 956, 957, 982, 983, 984, 985, 986, 987, 988, 989, 990, 991, 992, 993, 994, 995, 996, 997, 998] (by decide +kernel) (by decide +kernel)
set_option maxRecDepth 20000 in
theorem gL_law_X6_pig : GoodIn wsL_law (wsV RL 48 RX6 yX6_pig wsX6_pig) := goodIn_app (goodIn_of _ (by decide +kernel)) ggL_law_X6_pig
set_option maxRecDepth 20000 in
theorem ggL_law_X7_pig : GoodIn wsL_law wsX7_pig := goodIn_r _ [318, 165, 166, 5, 167, 173, 174, 175, 176, 118, 168, 169, 170, 171, 121, 172, 958, 959, 960, 961, 962, 963, 964, 965, 966, 967, 968, 969, 970, 971, 972, 973, 974, 975, 976, 977, 978, 979, 980, 981] (by decide +kernel) (by decide +kernel)
set_option maxRecDepth 20000 in
theorem gL_law_X7_pig : GoodIn wsL_law (wsV RL 51 RX7 yX7_pig wsX7_pig) := goodIn_app (goodIn_of _ (by decide +kernel)) ggL_law_X7_pig
set_option maxRecDepth 20000 in
theorem ggL_law_X6_feed : GoodIn wsL_law wsX6_feed := goodIn_r _ [322, 20, 323, 147, 148, 2, 149, 150, 151, 152, 153, 41, 154, 324, 325, 326, 19, 327, 78, 83, 943, 944, 945, 946, 947, 948, 949, 950, 951, 952, 953, 954, 955, 956, 957, 999, 1000] (by decide +kernel) (by decide +kernel)
set_option maxRecDepth 20000 in
theorem gL_law_X6_feed : GoodIn wsL_law (wsV RL 54 RX6 yX6_feed wsX6_feed) := goodIn_app (goodIn_of _ (by decide +kernel)) ggL_law_X6_feed
set_option maxRecDepth 20000 in
theorem ggL_law_X7_feed : GoodIn wsL_law wsX7_feed := goodIn_r _ [331, 118, 332, 165, 166, 5, 167, 168, 169, 170, 171, 121, 172, 958, 959, 960, 961, 962, 963, 964, 965, 966, 967, 968, 969, 970, 971, 972, 973, 974, 975, 976, 977, 978, 979, 980, 981] (by decide +kernel) (by decide +kernel)
set_option maxRecDepth 20000 in
theorem gL_law_X7_feed : GoodIn wsL_law (wsV RL 58 RX7 yX7_feed wsX7_feed) := goodIn_app (goodIn_of _ (by decide +kernel)) ggL_law_X7_feed
set_option maxRecDepth 20000 in
theorem ggL_law_X6_text : GoodIn wsL_law wsX6_text := goodIn_r _ [336, 34, 20, 323, 16, 337, 338, 147, 148, 2, 149, 150, 151, 152, 153, 41, 154, 339, 340, 341, 33, 342, 94, 95, 96, 93, 343, 344, 345, 346, 19, 347, 78, 83, 348, 261, 81, 262, 349, 350, 351, 352, 353, 354, 355, 356, 357, 358, 359, 360, 361, 362, 363, 364, 195, 196, 197, 365, 325, 326, 327, 366, 367, 368, 369, 370, 371, 372, 373, 374, 375, 376, 377, 378, 379, 380, 381, 382, 383, 384, 385, 386, 387, 388, 389, 390, 391, 392, 393, 394, 395, 396, 397, 398, 399, 400, 401, 402, 15, 403, 59, 60, 404, 943, 944, 945, 946, 947, 948, 949, 950, 951, 952, 953, 954, 955, 956, 957, 999, 1000, 1013, 1014, 1001, 1002, 1003, 1004, 982, 983, 984, 985, 986, 987, 988, 989, 990, 991, 992, 993, 994, 995, 996, 997, 998] (by decide +kernel) (by decide +kernel)
set_option maxRecDepth 20000 in
theorem gL_law_X6_text : GoodIn wsL_law (wsV RL 59 RX6 yX6_text wsX6_text) := goodIn_app (goodIn_of _ (by decide +kernel)) ggL_law_X6_text
set_option maxRecDepth 20000 in
theorem ggL_law_X7_text : GoodIn wsL_law wsX7_text := goodIn_r _ [408, 409, 410, 411, 412, 118, 122, 165, 166, 5, 167, 168, 169, 170, 171, 121, 172, 413, 414, 415, 416, 417, 418, 419, 420, 421, 422, 423, 424, 425, 426, 427, 428, 429, 430, 431, 432, 433, 434, 435, 436, 437, 438, 439, 440, 441, 442, 443, 444, 445, 446, 447, 448, 449, 450, 451, 452, 958, 959, 960, 961, 962, 963, 964, 965, 966, 967, 968, 969, 970, 971, 972, 973, 974, 975, 976, 977, 978, 979, 980, 981] (by decide +kernel) (by decide +kernel)
set_option maxRecDepth 20000 in
theorem gL_law_X7_text : GoodIn wsL_law (wsV RL 62 RX7 yX7_text wsX7_text) := goodIn_app (goodIn_of _ (by decide +kernel)) ggL_law_X7_text
set_option maxRecDepth 20000 in
theorem ggL_law_X6_untell : GoodIn wsL_law wsX6_untell := goodIn_r _ [456, 16, 337, 323, 147, 148, 2, 149, 150, 151, 152, 153, 41, 154, 400, 401, 402, 15, 403, 59, 60, 457, 186, 187, 58, 188, 72, 189, 943, 944, 945, 946, 947, 948, 949, 950, 951, 952, 953, 954, 955, 956, 957, 1013, 1014, 999, 1000, 982, 983, 984, 985, 986, 987, 988, 989, 990, 991, 992, 993, 994, 995, 996, 997, 998] (by decide +kernel) (by decide +kernel)
set_option maxRecDepth 20000 in
theorem gL_law_X6_untell : GoodIn wsL_law (wsV RL 63 RX6 yX6_untell wsX6_untell) := goodIn_app (goodIn_of _ (by decide +kernel)) ggL_law_X6_untell
set_option maxRecDepth 20000 in
theorem ggL_law_X7_untell : GoodIn wsL_law wsX7_untell := goodIn_r _ [461, 118, 165, 166, 5, 167, 168, 169, 170, 171, 121, 172, 212, 213, 214, 215, 958, 959, 960, 961, 962, 963, 964, 965, 966, 967, 968, 969, 970, 971, 972, 973, 974, 975, 976, 977, 978, 979, 980, 981] (by decide +kernel) (by decide +kernel)
set_option maxRecDepth 20000 in
theorem gL_law_X7_untell : GoodIn wsL_law (wsV RL 66 RX7 yX7_untell wsX7_untell) := goodIn_app (goodIn_of _ (by decide +kernel)) ggL_law_X7_untell
set_option maxRecDepth 20000 in
theorem ggL_law_X6_days : GoodIn wsL_law wsX6_days := goodIn_r _ [465, 16, 466, 147, 148, 2, 149, 150, 151, 152, 153, 41, 154, 467, 468, 469, 15, 470, 471, 472, 473, 474, 63, 64, 475, 476, 477, 478, 54, 479, 480, 481, 482, 49, 61, 260, 261, 81, 262, 66, 483, 182, 183, 184, 60, 185, 186, 187, 58, 188, 72, 189, 190, 191, 192, 193, 73, 194, 195, 196, 19, 197, 78, 83, 198, 199, 200, 201, 202, 203, 484, 485, 486, 487, 67, 62, 55, 84, 85, 86, 87, 488, 489, 490, 491, 492, 493, 494, 495, 496, 497, 498, 499, 500, 501, 50, 51, 53, 502, 503, 504, 505, 506, 52, 507, 508, 509, 510, 59, 511, 512, 513, 263, 80, 82, 943, 944, 945, 946, 947, 948, 949, 950, 951, 952, 953, 954, 955, 956, 957, 982, 983, 984, 985, 986, 987, 988, 989, 990, 991, 992, 993, 994, 995, 996, 997, 998, 1013, 1014, 999, 1000] (by decide +kernel) (by decide +kernel)
set_option maxRecDepth 20000 in
theorem gL_law_X6_days : GoodIn wsL_law (wsV RL 67 RX6 yX6_days wsX6_days) := goodIn_app (goodIn_of _ (by decide +kernel)) ggL_law_X6_days
set_option maxRecDepth 20000 in
theorem ggL_law_X7_days : GoodIn wsL_law wsX7_days := goodIn_r _ [517, 518, 519, 520, 5, 521, 118, 165, 166, 167, 168, 169, 170, 171, 121, 172, 522, 523, 524, 525, 526, 527, 528, 529, 530, 126, 531, 532, 533, 534, 245, 246, 247, 248, 535, 536, 537, 538, 125, 539, 540, 541, 542, 543, 544, 545, 546, 547, 548, 208, 209, 210, 211, 123, 212, 213, 214, 215, 216, 217, 218, 219, 124, 220, 221, 222, 549, 550, 551, 552, 134, 135, 136, 137, 553, 554, 555, 556, 557, 558, 559, 560, 561, 562, 563, 564, 958, 959, 960, 961, 962, 963, 964, 965, 966, 967, 968, 969, 970, 971, 972, 973, 974, 975, 976, 977, 978, 979, 980, 981] (by decide +kernel) (by decide +kernel)
set_option maxRecDepth 20000 in
theorem gL_law_X7_days : GoodIn wsL_law (wsV RL 70 RX7 yX7_days wsX7_days) := goodIn_app (goodIn_of _ (by decide +kernel)) ggL_law_X7_days
set_option maxRecDepth 20000 in
theorem ggL_law_X6_draws : GoodIn wsL_law wsX6_draws := goodIn_r _ [568, 16, 466, 147, 148, 2, 149, 150, 151, 152, 153, 41, 154, 569, 570, 571, 15, 572, 65, 573, 61, 574, 472, 473, 474, 63, 64, 475, 476, 477, 478, 54, 479, 480, 481, 482, 49, 260, 261, 81, 262, 66, 483, 182, 183, 184, 60, 185, 186, 187, 58, 188, 72, 189, 190, 191, 192, 193, 73, 194, 195, 196, 19, 197, 78, 83, 198, 199, 200, 201, 202, 203, 484, 485, 486, 487, 67, 62, 55, 84, 85, 86, 87, 488, 489, 490, 491, 492, 493, 494, 495, 496, 497, 498, 499, 500, 501, 50, 51, 53, 502, 503, 504, 505, 506, 52, 507, 508, 509, 510, 59, 511, 512, 513, 263, 80, 82, 943, 944, 945, 946, 947, 948, 949, 950, 951, 952, 953, 954, 955, 956, 957, 982, 983, 984, 985, 986, 987, 988, 989, 990, 991, 992, 993, 994, 995, 996, 997, 998, 1013, 1014, 999, 1000] (by decide +kernel) (by decide +kernel)
set_option maxRecDepth 20000 in
theorem gL_law_X6_draws : GoodIn wsL_law (wsV RL 71 RX6 yX6_draws wsX6_draws) := goodIn_app (goodIn_of _ (by decide +kernel)) ggL_law_X6_draws
set_option maxRecDepth 20000 in
theorem ggL_law_X7_draws : GoodIn wsL_law wsX7_draws := goodIn_r _ [578, 118, 518, 519, 520, 5, 521, 165, 166, 167, 168, 169, 170, 171, 121, 172, 579, 580, 581, 582, 583, 526, 527, 528, 529, 530, 126, 531, 532, 533, 534, 245, 246, 247, 248, 535, 536, 537, 538, 125, 539, 540, 541, 542, 543, 544, 545, 546, 547, 548, 208, 209, 210, 211, 123, 212, 213, 214, 215, 216, 217, 218, 219, 124, 220, 221, 222, 549, 550, 551, 552, 134, 135, 136, 137, 553, 554, 555, 556, 557, 558, 559, 560, 561, 562, 563, 564, 958, 959, 960, 961, 962, 963, 964, 965, 966, 967, 968, 969, 970, 971, 972, 973, 974, 975, 976, 977, 978, 979, 980, 981] (by decide +kernel) (by decide +kernel)
set_option maxRecDepth 20000 in
theorem gL_law_X7_draws : GoodIn wsL_law (wsV RL 74 RX7 yX7_draws wsX7_draws) := goodIn_app (goodIn_of _ (by decide +kernel)) ggL_law_X7_draws
