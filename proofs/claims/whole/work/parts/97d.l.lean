set_option maxRecDepth 20000 in
theorem ggL_law_X6_init : GoodIn wsL_law wsX6_init := goodIn_r _ [9, 10, 11, 12, 13, 14, 15, 16, 17, 18, 19, 20, 21, 22, 23, 24, 25, 26, 27, 28, 29, 30, 31, 32, 33, 34, 35, 36, 37, 38, 39, 40, 41, 42, 43, 44, 45, 46, 47, 48, 49, 50, 51, 52, 53, 54, 55, 56, 57, 58, 59, 60, 61, 62, 63, 64, 65, 66, 67, 68, 69, 70, 71, 72, 73, 74, 75, 76, 77, 78, 79, 80, 81, 82, 83, 84, 85, 86, 87, 88, 89, 90, 91, 92, 93, 94, 95, 96, 97, 98, 99, 100, 101, 102, 103, 104, 105, 106, 107, 108, 109, 110, 111, 112, 113, 982, 983, 984, 985, 986, 987, 988, 989, 990, 991, 992, 993, 994, 995, 996, 997, 998, 943, 944, 945, 946, 947, 948, 949, 950, 951, 952, 953, 954, 955, 956, 957, 999, 1000, 1001, 1002, 1003, 1004, 1005, 1006, 1007, 1008, 1009, 1010, 1011, 1012, 1013, 1014] (by decide +kernel) (by decide +kernel)
set_option maxRecDepth 20000 in
theorem gL_law_X6_init : GoodIn wsL_law (wsX6_init) := ggL_law_X6_init
set_option maxRecDepth 20000 in
theorem ggL_law_X7_init : GoodIn wsL_law wsX7_init := goodIn_r _ [116, 117, 11, 12, 28, 118, 119, 120, 121, 122, 123, 124, 125, 126, 127, 128, 129, 130, 131, 132, 133, 134, 135, 136, 5, 137, 958, 959, 960, 961, 962, 963, 964, 965, 966, 967, 968, 969, 970, 971, 972, 973, 974, 975, 976, 977, 978, 979, 980, 981] (by decide +kernel) (by decide +kernel)
set_option maxRecDepth 20000 in
theorem gL_law_X7_init : GoodIn wsL_law (wsX7_init) := ggL_law_X7_init
set_option maxRecDepth 20000 in
theorem ggL_law_X6_oak : GoodIn wsL_law wsX6_oak := goodIn_r _ [141, 16, 142, 143, 144, 145, 2, 146, 147, 148, 149, 150, 151, 152, 153, 41, 154, 155, 156, 157, 943, 944, 945, 946, 947, 948, 949, 950, 951, 952, 953, 954, 955, 956, 957, 982, 983, 984, 985, 986, 987, 988, 989, 990, 991, 992, 993, 994, 995, 996, 997, 998] (by decide +kernel) (by decide +kernel)
set_option maxRecDepth 20000 in
theorem gL_law_X6_oak : GoodIn wsL_law (wsV RL 13 RX6 yX6_oak wsX6_oak) := goodIn_app (goodIn_of _ (by decide +kernel)) ggL_law_X6_oak
set_option maxRecDepth 20000 in
theorem ggL_law_X7_oak : GoodIn wsL_law wsX7_oak := goodIn_r _ [161, 162, 163, 5, 164, 165, 166, 167, 168, 169, 170, 171, 121, 172, 173, 174, 175, 176, 118, 958, 959, 960, 961, 962, 963, 964, 965, 966, 967, 968, 969, 970, 971, 972, 973, 974, 975, 976, 977, 978, 979, 980, 981] (by decide +kernel) (by decide +kernel)
set_option maxRecDepth 20000 in
theorem gL_law_X7_oak : GoodIn wsL_law (wsV RL 17 RX7 yX7_oak wsX7_oak) := goodIn_app (goodIn_of _ (by decide +kernel)) ggL_law_X7_oak
set_option maxRecDepth 20000 in
theorem ggL_law_X6_oakIs : GoodIn wsL_law wsX6_oakIs := goodIn_r _ [180, 16, 142, 143, 144, 145, 2, 146, 147, 148, 149, 150, 151, 152, 153, 41, 154, 181, 182, 183, 15, 184, 60, 49, 63, 185, 186, 187, 58, 188, 72, 189, 190, 191, 192, 193, 73, 194, 195, 196, 19, 197, 78, 83, 198, 199, 200, 201, 202, 203, 943, 944, 945, 946, 947, 948, 949, 950, 951, 952, 953, 954, 955, 956, 957, 982, 983, 984, 985, 986, 987, 988, 989, 990, 991, 992, 993, 994, 995, 996, 997, 998, 1013, 1014, 999, 1000] (by decide +kernel) (by decide +kernel)
set_option maxRecDepth 20000 in
theorem gL_law_X6_oakIs : GoodIn wsL_law (wsV RL 18 RX6 yX6_oakIs wsX6_oakIs) := goodIn_app (goodIn_of _ (by decide +kernel)) ggL_law_X6_oakIs
set_option maxRecDepth 20000 in
theorem ggL_law_X7_oakIs : GoodIn wsL_law wsX7_oakIs := goodIn_r _ [207, 118, 162, 163, 5, 164, 165, 166, 167, 168, 169, 170, 171, 121, 172, 208, 209, 210, 211, 123, 212, 213, 214, 215, 216, 217, 218, 219, 124, 220, 221, 222, 958, 959, 960, 961, 962, 963, 964, 965, 966, 967, 968, 969, 970, 971, 972, 973, 974, 975, 976, 977, 978, 979, 980, 981] (by decide +kernel) (by decide +kernel)
set_option maxRecDepth 20000 in
theorem gL_law_X7_oakIs : GoodIn wsL_law (wsV RL 22 RX7 yX7_oakIs wsX7_oakIs) := goodIn_app (goodIn_of _ (by decide +kernel)) ggL_law_X7_oakIs
set_option maxRecDepth 20000 in
theorem ggL_law_X6_rain : GoodIn wsL_law wsX6_rain := goodIn_r _ [226, 16, 227, 147, 148, 2, 149, 150, 151, 152, 153, 41, 154, 943, 944, 945, 946, 947, 948, 949, 950, 951, 952, 953, 954, 955, 956, 957, 982, 983, 984, 985, 986, 987, 988, 989, 990, 991, 992, 993, 994, 995, 996, 997, 998] (by decide +kernel) (by decide +kernel)
set_option maxRecDepth 20000 in
theorem gL_law_X6_rain : GoodIn wsL_law (wsV RL 23 RX6 yX6_rain wsX6_rain) := goodIn_app (goodIn_of _ (by decide +kernel)) ggL_law_X6_rain
set_option maxRecDepth 20000 in
theorem ggL_law_X7_rain : GoodIn wsL_law wsX7_rain := goodIn_r _ [231, 165, 166, 5, 167, 173, 174, 175, 176, 118, 168, 169, 170, 171, 121, 172, 958, 959, 960, 961, 962, 963, 964, 965, 966, 967, 968, 969, 970, 971, 972, 973, 974, 975, 976, 977, 978, 979, 980, 981] (by decide +kernel) (by decide +kernel)
set_option maxRecDepth 20000 in
theorem gL_law_X7_rain : GoodIn wsL_law (wsV RL 27 RX7 yX7_rain wsX7_rain) := goodIn_app (goodIn_of _ (by decide +kernel)) ggL_law_X7_rain
set_option maxRecDepth 20000 in
theorem ggL_law_X6_farmer : GoodIn wsL_law wsX6_farmer := goodIn_r _ [235, 16, 236, 237, 155, 156, 2, 157, 147, 148, 149, 150, 151, 152, 153, 41, 154, 943, 944, 945, 946, 947, 948, 949, 950, 951, 952, 953, 954, 955, 956, 957, 982, 983, 984, 985, 986, 987, 988, 989, 990, 991, 992, 993, 994, 995, 996, 997, 998] (by decide +kernel) (by decide +kernel)
set_option maxRecDepth 20000 in
theorem gL_law_X6_farmer : GoodIn wsL_law (wsV RL 28 RX6 yX6_farmer wsX6_farmer) := goodIn_app (goodIn_of _ (by decide +kernel)) ggL_law_X6_farmer
set_option maxRecDepth 20000 in
theorem ggL_law_X7_farmer : GoodIn wsL_law wsX7_farmer := goodIn_r _ [241, 242, 243, 5, 244, 165, 166, 167, 168, 169, 170, 171, 121, 172, 245, 246, 247, 248, 118, 134, 135, 136, 137, 958, 959, 960, 961, 962, 963, 964, 965, 966, 967, 968, 969, 970, 971, 972, 973, 974, 975, 976, 977, 978, 979, 980, 981] (by decide +kernel) (by decide +kernel)
set_option maxRecDepth 20000 in
theorem gL_law_X7_farmer : GoodIn wsL_law (wsV RL 31 RX7 yX7_farmer wsX7_farmer) := goodIn_app (goodIn_of _ (by decide +kernel)) ggL_law_X7_farmer
set_option maxRecDepth 20000 in
theorem ggL_law_X6_farmerIs : GoodIn wsL_law wsX6_farmerIs := goodIn_r _ [252, 16, 155, 156, 2, 157, 147, 148, 149, 150, 151, 152, 153, 41, 154, 253, 254, 255, 15, 256, 50, 51, 52, 53, 54, 55, 257, 258, 259, 260, 261, 81, 262, 263, 80, 82, 943, 944, 945, 946, 947, 948, 949, 950, 951, 952, 953, 954, 955, 956, 957, 982, 983, 984, 985, 986, 987, 988, 989, 990, 991, 992, 993, 994, 995, 996, 997, 998] (by decide +kernel) (by decide +kernel)
set_option maxRecDepth 20000 in
theorem gL_law_X6_farmerIs : GoodIn wsL_law (wsV RL 32 RX6 yX6_farmerIs wsX6_farmerIs) := goodIn_app (goodIn_of _ (by decide +kernel)) ggL_law_X6_farmerIs
set_option maxRecDepth 20000 in
theorem ggL_law_X7_farmerIs : GoodIn wsL_law wsX7_farmerIs := goodIn_r _ [267, 242, 243, 5, 244, 165, 166, 167, 245, 246, 247, 248, 118, 168, 169, 170, 171, 121, 172, 958, 959, 960, 961, 962, 963, 964, 965, 966, 967, 968, 969, 970, 971, 972, 973, 974, 975, 976, 977, 978, 979, 980, 981] (by decide +kernel) (by decide +kernel)
set_option maxRecDepth 20000 in
theorem gL_law_X7_farmerIs : GoodIn wsL_law (wsV RL 35 RX7 yX7_farmerIs wsX7_farmerIs) := goodIn_app (goodIn_of _ (by decide +kernel)) ggL_law_X7_farmerIs
set_option maxRecDepth 20000 in
theorem ggL_law_X6_as : GoodIn wsL_law wsX6_as := goodIn_r _ [271, 16, 236, 237, 155, 156, 2, 157, 147, 148, 149, 150, 151, 152, 153, 41, 154, 272, 273, 274, 275, 943, 944, 945, 946, 947, 948, 949, 950, 951, 952, 953, 954, 955, 956, 957, 982, 983, 984, 985, 986, 987, 988, 989, 990, 991, 992, 993, 994, 995, 996, 997, 998] (by decide +kernel) (by decide +kernel)
set_option maxRecDepth 20000 in
theorem gL_law_X6_as : GoodIn wsL_law (wsV RL 36 RX6 yX6_as wsX6_as) := goodIn_app (goodIn_of _ (by decide +kernel)) ggL_law_X6_as
set_option maxRecDepth 20000 in
theorem ggL_law_X7_as : GoodIn wsL_law wsX7_as := goodIn_r _ [279, 242, 243, 5, 244, 165, 166, 167, 168, 169, 170, 171, 121, 172, 245, 246, 247, 248, 118, 280, 281, 282, 958, 959, 960, 961, 962, 963, 964, 965, 966, 967, 968, 969, 970, 971, 972, 973, 974, 975, 976, 977, 978, 979, 980, 981] (by decide +kernel) (by decide +kernel)
set_option maxRecDepth 20000 in
theorem gL_law_X7_as : GoodIn wsL_law (wsV RL 39 RX7 yX7_as wsX7_as) := goodIn_app (goodIn_of _ (by decide +kernel)) ggL_law_X7_as
set_option maxRecDepth 20000 in
theorem ggL_law_X6_trade : GoodIn wsL_law wsX6_trade := goodIn_r _ [286, 16, 287, 155, 156, 2, 157, 147, 148, 149, 150, 151, 152, 153, 41, 154, 288, 289, 290, 15, 291, 54, 943, 944, 945, 946, 947, 948, 949, 950, 951, 952, 953, 954, 955, 956, 957, 982, 983, 984, 985, 986, 987, 988, 989, 990, 991, 992, 993, 994, 995, 996, 997, 998] (by decide +kernel) (by decide +kernel)
set_option maxRecDepth 20000 in
theorem gL_law_X6_trade : GoodIn wsL_law (wsV RL 40 RX6 yX6_trade wsX6_trade) := goodIn_app (goodIn_of _ (by decide +kernel)) ggL_law_X6_trade
