set_option maxRecDepth 20000 in
theorem ggL_law_X6_judge : GoodIn wsL_law wsX6_judge := goodIn_r _ [887, 40, 26, 16, 718, 313, 719, 720, 2, 721, 147, 148, 149, 150, 151, 152, 153, 41, 154, 722, 723, 724, 43, 725, 112, 597, 598, 599, 15, 600, 48, 601, 350, 351, 352, 50, 51, 52, 53, 54, 55, 59, 602, 60, 61, 63, 64, 65, 603, 345, 346, 19, 347, 78, 83, 348, 261, 81, 262, 349, 604, 605, 606, 607, 49, 66, 62, 872, 873, 874, 875, 113, 111, 574, 472, 473, 474, 475, 476, 477, 478, 479, 480, 481, 482, 260, 483, 182, 183, 184, 185, 186, 187, 58, 188, 72, 189, 190, 191, 192, 193, 73, 194, 195, 196, 197, 198, 199, 200, 201, 202, 203, 484, 485, 486, 487, 67, 84, 85, 86, 87, 488, 489, 490, 491, 492, 493, 494, 495, 496, 497, 498, 499, 500, 501, 502, 503, 504, 505, 506, 507, 508, 509, 510, 511, 512, 513, 263, 80, 82, 943, 944, 945, 946, 947, 948, 949, 950, 951, 952, 953, 954, 955, 956, 957, 1010, 1011, 1012, 982, 983, 984, 985, 986, 987, 988, 989, 990, 991, 992, 993, 994, 995, 996, 997, 998, 1013, 1014, 999, 1000] (by decide +kernel) (by decide +kernel)
set_option maxRecDepth 20000 in
theorem gL_law_X6_judge : GoodIn wsL_law (wsV RL 137 RX6 yX6_judge wsX6_judge) := goodIn_app (goodIn_of _ (by decide +kernel)) ggL_law_X6_judge
set_option maxRecDepth 20000 in
theorem ggL_law_X7_judge : GoodIn wsL_law wsX7_judge := goodIn_r _ [891, 131, 132, 118, 880, 881, 882, 5, 883, 130, 739, 740, 741, 165, 166, 167, 168, 169, 170, 171, 121, 172, 612, 613, 614, 615, 120, 616, 617, 618, 526, 527, 528, 529, 530, 126, 531, 532, 533, 534, 245, 246, 247, 248, 535, 536, 537, 538, 125, 539, 540, 541, 542, 543, 544, 545, 546, 547, 548, 208, 209, 210, 211, 123, 212, 213, 214, 215, 216, 217, 218, 219, 124, 220, 221, 222, 549, 550, 551, 552, 134, 135, 136, 137, 553, 554, 555, 556, 557, 558, 559, 560, 561, 562, 563, 564, 619, 620, 621, 622, 958, 959, 960, 961, 962, 963, 964, 965, 966, 967, 968, 969, 970, 971, 972, 973, 974, 975, 976, 977, 978, 979, 980, 981] (by decide +kernel) (by decide +kernel)
set_option maxRecDepth 20000 in
theorem gL_law_X7_judge : GoodIn wsL_law (wsV RL 140 RX7 yX7_judge wsX7_judge) := goodIn_app (goodIn_of _ (by decide +kernel)) ggL_law_X7_judge
set_option maxRecDepth 20000 in
theorem ggL_law_X6_image : GoodIn wsL_law wsX6_image := goodIn_r _ [895, 22, 16, 23, 20, 24, 21, 25, 597, 598, 599, 15, 600, 48, 601, 350, 351, 352, 50, 51, 52, 53, 54, 55, 59, 602, 60, 61, 63, 64, 65, 603, 345, 346, 19, 347, 78, 83, 348, 261, 81, 262, 349, 604, 605, 606, 607, 49, 66, 62, 404, 943, 944, 945, 946, 947, 948, 949, 950, 951, 952, 953, 954, 955, 956, 957, 982, 983, 984, 985, 986, 987, 988, 989, 990, 991, 992, 993, 994, 995, 996, 997, 998, 1013, 1014, 999, 1000] (by decide +kernel) (by decide +kernel)
set_option maxRecDepth 20000 in
theorem gL_law_X6_image : GoodIn wsL_law (wsV RL 141 RX6 yX6_image wsX6_image) := goodIn_app (goodIn_of _ (by decide +kernel)) ggL_law_X6_image
set_option maxRecDepth 20000 in
theorem ggL_law_X7_image : GoodIn wsL_law wsX7_image := goodIn_r _ [899, 118, 119, 900, 616, 617, 5, 618, 958, 959, 960, 961, 962, 963, 964, 965, 966, 967, 968, 969, 970, 971, 972, 973, 974, 975, 976, 977, 978, 979, 980, 981] (by decide +kernel) (by decide +kernel)
set_option maxRecDepth 20000 in
theorem gL_law_X7_image : GoodIn wsL_law (wsV RL 144 RX7 yX7_image wsX7_image) := goodIn_app (goodIn_of _ (by decide +kernel)) ggL_law_X7_image
set_option maxRecDepth 20000 in
theorem ggL_law_X6_restore : GoodIn wsL_law wsX6_restore := goodIn_r _ [904, 25, 16, 22, 20, 23, 21, 24, 466, 150, 151, 152, 2, 153, 41, 154, 597, 598, 599, 15, 600, 48, 601, 350, 351, 352, 50, 51, 52, 53, 54, 55, 59, 602, 60, 61, 63, 64, 65, 603, 345, 346, 19, 347, 78, 83, 348, 261, 81, 262, 349, 604, 605, 606, 607, 49, 66, 62, 404, 943, 944, 945, 946, 947, 948, 949, 950, 951, 952, 953, 954, 955, 956, 957, 982, 983, 984, 985, 986, 987, 988, 989, 990, 991, 992, 993, 994, 995, 996, 997, 998, 1013, 1014, 999, 1000] (by decide +kernel) (by decide +kernel)
set_option maxRecDepth 20000 in
theorem gL_law_X6_restore : GoodIn wsL_law (wsV RL 145 RX6 yX6_restore wsX6_restore) := goodIn_app (goodIn_of _ (by decide +kernel)) ggL_law_X6_restore
set_option maxRecDepth 20000 in
theorem ggL_law_X7_restore : GoodIn wsL_law wsX7_restore := goodIn_r _ [908, 900, 119, 118, 168, 169, 170, 5, 171, 121, 172, 616, 617, 618, 958, 959, 960, 961, 962, 963, 964, 965, 966, 967, 968, 969, 970, 971, 972, 973, 974, 975, 976, 977, 978, 979, 980, 981] (by decide +kernel) (by decide +kernel)
set_option maxRecDepth 20000 in
theorem gL_law_X7_restore : GoodIn wsL_law (wsV RL 148 RX7 yX7_restore wsX7_restore) := goodIn_app (goodIn_of _ (by decide +kernel)) ggL_law_X7_restore
set_option maxRecDepth 20000 in
theorem ggL_law_X6_tell : GoodIn wsL_law wsX6_tell := goodIn_r _ [912, 21, 323, 150, 151, 152, 2, 153, 41, 154, 324, 325, 326, 19, 327, 78, 83, 943, 944, 945, 946, 947, 948, 949, 950, 951, 952, 953, 954, 955, 956, 957, 999, 1000] (by decide +kernel) (by decide +kernel)
set_option maxRecDepth 20000 in
theorem gL_law_X6_tell : GoodIn wsL_law (wsV RL 149 RX6 yX6_tell wsX6_tell) := goodIn_app (goodIn_of _ (by decide +kernel)) ggL_law_X6_tell
set_option maxRecDepth 20000 in
theorem ggL_law_X7_tell : GoodIn wsL_law wsX7_tell := goodIn_r _ [916, 118, 168, 169, 170, 5, 171, 121, 172, 958, 959, 960, 961, 962, 963, 964, 965, 966, 967, 968, 969, 970, 971, 972, 973, 974, 975, 976, 977, 978, 979, 980, 981] (by decide +kernel) (by decide +kernel)
set_option maxRecDepth 20000 in
theorem gL_law_X7_tell : GoodIn wsL_law (wsV RL 152 RX7 yX7_tell wsX7_tell) := goodIn_app (goodIn_of _ (by decide +kernel)) ggL_law_X7_tell
set_option maxRecDepth 20000 in
theorem ggL_law_X6_check : GoodIn wsL_law wsX6_check := goodIn_r _ [920, 21, 323, 26, 16, 921, 597, 598, 599, 15, 600, 48, 601, 350, 351, 352, 50, 51, 52, 53, 54, 55, 59, 602, 60, 61, 63, 64, 65, 603, 345, 346, 19, 347, 78, 83, 348, 261, 81, 262, 349, 604, 605, 606, 607, 49, 66, 62, 574, 472, 473, 474, 475, 476, 477, 478, 479, 480, 481, 482, 260, 483, 182, 183, 184, 185, 186, 187, 58, 188, 72, 189, 190, 191, 192, 193, 73, 194, 195, 196, 197, 198, 199, 200, 201, 202, 203, 484, 485, 486, 487, 67, 84, 85, 86, 87, 488, 489, 490, 491, 492, 493, 494, 495, 496, 497, 498, 499, 500, 501, 502, 503, 504, 505, 506, 507, 508, 509, 510, 511, 512, 513, 263, 80, 82, 943, 944, 945, 946, 947, 948, 949, 950, 951, 952, 953, 954, 955, 956, 957, 999, 1000, 982, 983, 984, 985, 986, 987, 988, 989, 990, 991, 992, 993, 994, 995, 996, 997, 998, 1013, 1014] (by decide +kernel) (by decide +kernel)
set_option maxRecDepth 20000 in
theorem gL_law_X6_check : GoodIn wsL_law (wsV RL 153 RX6 yX6_check wsX6_check) := goodIn_app (goodIn_of _ (by decide +kernel)) ggL_law_X6_check
set_option maxRecDepth 20000 in
theorem ggL_law_X7_check : GoodIn wsL_law wsX7_check := goodIn_r _ [925, 118, 612, 613, 614, 5, 615, 120, 616, 617, 618, 526, 527, 528, 529, 530, 126, 531, 532, 533, 534, 245, 246, 247, 248, 535, 536, 537, 538, 125, 539, 540, 541, 542, 543, 544, 545, 546, 547, 548, 208, 209, 210, 211, 123, 212, 213, 214, 215, 216, 217, 218, 219, 124, 220, 221, 222, 549, 550, 551, 552, 134, 135, 136, 137, 553, 554, 555, 556, 557, 558, 559, 560, 561, 562, 563, 564, 619, 620, 621, 622, 958, 959, 960, 961, 962, 963, 964, 965, 966, 967, 968, 969, 970, 971, 972, 973, 974, 975, 976, 977, 978, 979, 980, 981] (by decide +kernel) (by decide +kernel)
set_option maxRecDepth 20000 in
theorem gL_law_X7_check : GoodIn wsL_law (wsV RL 156 RX7 yX7_check wsX7_check) := goodIn_app (goodIn_of _ (by decide +kernel)) ggL_law_X7_check
set_option maxRecDepth 20000 in
theorem ggL_law_X6_count : GoodIn wsL_law wsX6_count := goodIn_r _ [929, 16, 466, 313, 314, 227, 143, 668, 930, 20, 323, 21, 38, 820, 588, 657, 476, 477, 15, 478, 64, 54, 627, 628, 2, 629, 150, 151, 152, 153, 41, 154, 943, 944, 945, 946, 947, 948, 949, 950, 951, 952, 953, 954, 955, 956, 957, 982, 983, 984, 985, 986, 987, 988, 989, 990, 991, 992, 993, 994, 995, 996, 997, 998, 999, 1000, 1005, 1006, 1007, 1008, 1009] (by decide +kernel) (by decide +kernel)
set_option maxRecDepth 20000 in
theorem gL_law_X6_count : GoodIn wsL_law (wsV RL 157 RX6 yX6_count wsX6_count) := goodIn_app (goodIn_of _ (by decide +kernel)) ggL_law_X6_count
set_option maxRecDepth 20000 in
theorem ggL_law_X7_count : GoodIn wsL_law wsX7_count := goodIn_r _ [934, 118, 782, 531, 532, 533, 5, 534, 245, 246, 247, 248, 638, 639, 640, 641, 674, 675, 676, 677, 168, 169, 170, 171, 121, 172, 958, 959, 960, 961, 962, 963, 964, 965, 966, 967, 968, 969, 970, 971, 972, 973, 974, 975, 976, 977, 978, 979, 980, 981] (by decide +kernel) (by decide +kernel)
set_option maxRecDepth 20000 in
theorem gL_law_X7_count : GoodIn wsL_law (wsV RL 160 RX7 yX7_count wsX7_count) := goodIn_app (goodIn_of _ (by decide +kernel)) ggL_law_X7_count
set_option maxRecDepth 20000 in
theorem ggL_law_X6_told : GoodIn wsL_law wsX6_told := goodIn_r _ [938, 41, 147, 148, 2, 149, 150, 151, 152, 153, 154, 943, 944, 945, 946, 947, 948, 949, 950, 951, 952, 953, 954, 955, 956, 957] (by decide +kernel) (by decide +kernel)
set_option maxRecDepth 20000 in
theorem gL_law_X6_told : GoodIn wsL_law (wsV RL 161 RX6 yX6_told wsX6_told) := goodIn_app (goodIn_of _ (by decide +kernel)) ggL_law_X6_told
set_option maxRecDepth 20000 in
theorem ggL_law_X7_told : GoodIn wsL_law wsX7_told := goodIn_r _ [942, 121, 165, 166, 5, 167, 168, 169, 170, 171, 172, 958, 959, 960, 961, 962, 963, 964, 965, 966, 967, 968, 969, 970, 971, 972, 973, 974, 975, 976, 977, 978, 979, 980, 981] (by decide +kernel) (by decide +kernel)
set_option maxRecDepth 20000 in
theorem gL_law_X7_told : GoodIn wsL_law (wsV RL 164 RX7 yX7_told wsX7_told) := goodIn_app (goodIn_of _ (by decide +kernel)) ggL_law_X7_told
