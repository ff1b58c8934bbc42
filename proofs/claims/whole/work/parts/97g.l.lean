set_option maxRecDepth 20000 in
theorem ggL_law_X7_share : GoodIn wsL_law wsX7_share := goodIn_r _ [713, 118, 125, 242, 243, 5, 244, 165, 166, 167, 168, 169, 170, 171, 121, 172, 612, 613, 614, 615, 120, 616, 617, 618, 531, 532, 533, 534, 245, 246, 247, 248, 526, 527, 528, 529, 530, 126, 535, 536, 537, 538, 539, 540, 541, 542, 543, 544, 545, 546, 547, 548, 208, 209, 210, 211, 123, 212, 213, 214, 215, 216, 217, 218, 219, 124, 220, 221, 222, 549, 550, 551, 552, 134, 135, 136, 137, 553, 554, 555, 556, 557, 558, 559, 560, 561, 562, 563, 564, 619, 620, 621, 622, 958, 959, 960, 961, 962, 963, 964, 965, 966, 967, 968, 969, 970, 971, 972, 973, 974, 975, 976, 977, 978, 979, 980, 981] (by decide +kernel) (by decide +kernel)
set_option maxRecDepth 20000 in
theorem gL_law_X7_share : GoodIn wsL_law (wsV RL 107 RX7 yX7_share wsX7_share) := goodIn_app (goodIn_of _ (by decide +kernel)) ggL_law_X7_share
set_option maxRecDepth 20000 in
theorem ggL_law_X6_whoHid : GoodIn wsL_law wsX6_whoHid := goodIn_r _ [717, 40, 718, 719, 720, 2, 721, 147, 148, 149, 150, 151, 152, 153, 41, 154, 722, 723, 724, 43, 725, 112, 726, 727, 728, 729, 26, 16, 236, 30, 27, 237, 466, 668, 597, 598, 599, 15, 600, 48, 601, 350, 351, 352, 50, 51, 52, 53, 54, 55, 59, 602, 60, 61, 63, 64, 65, 603, 345, 346, 19, 347, 78, 83, 348, 261, 81, 262, 349, 604, 605, 606, 607, 49, 66, 62, 574, 472, 473, 474, 475, 476, 477, 478, 479, 480, 481, 482, 260, 483, 182, 183, 184, 185, 186, 187, 58, 188, 72, 189, 190, 191, 192, 193, 73, 194, 195, 196, 197, 198, 199, 200, 201, 202, 203, 484, 485, 486, 487, 67, 84, 85, 86, 87, 488, 489, 490, 491, 492, 493, 494, 495, 496, 497, 498, 499, 500, 501, 502, 503, 504, 505, 506, 507, 508, 509, 510, 511, 512, 513, 263, 80, 82, 657, 730, 731, 732, 733, 734, 113, 111, 943, 944, 945, 946, 947, 948, 949, 950, 951, 952, 953, 954, 955, 956, 957, 1010, 1011, 1012, 982, 983, 984, 985, 986, 987, 988, 989, 990, 991, 992, 993, 994, 995, 996, 997, 998, 1013, 1014, 999, 1000] (by decide +kernel) (by decide +kernel)
set_option maxRecDepth 20000 in
theorem gL_law_X6_whoHid : GoodIn wsL_law (wsV RL 108 RX6 yX6_whoHid wsX6_whoHid) := goodIn_app (goodIn_of _ (by decide +kernel)) ggL_law_X6_whoHid
set_option maxRecDepth 20000 in
theorem ggL_law_X7_whoHid : GoodIn wsL_law wsX7_whoHid := goodIn_r _ [738, 130, 131, 739, 740, 5, 741, 165, 166, 167, 168, 169, 170, 171, 121, 172, 742, 743, 744, 745, 132, 612, 613, 614, 615, 118, 120, 616, 617, 618, 134, 135, 136, 137, 522, 523, 524, 525, 526, 527, 528, 529, 530, 126, 531, 532, 533, 534, 245, 246, 247, 248, 535, 536, 537, 538, 125, 539, 540, 541, 542, 543, 544, 545, 546, 547, 548, 208, 209, 210, 211, 123, 212, 213, 214, 215, 216, 217, 218, 219, 124, 220, 221, 222, 549, 550, 551, 552, 553, 554, 555, 556, 557, 558, 559, 560, 561, 562, 563, 564, 619, 620, 621, 622, 958, 959, 960, 961, 962, 963, 964, 965, 966, 967, 968, 969, 970, 971, 972, 973, 974, 975, 976, 977, 978, 979, 980, 981] (by decide +kernel) (by decide +kernel)
set_option maxRecDepth 20000 in
theorem gL_law_X7_whoHid : GoodIn wsL_law (wsV RL 111 RX7 yX7_whoHid wsX7_whoHid) := goodIn_app (goodIn_of _ (by decide +kernel)) ggL_law_X7_whoHid
set_option maxRecDepth 20000 in
theorem ggL_law_X6_voice : GoodIn wsL_law wsX6_voice := goodIn_r _ [749, 38, 16, 236, 237, 750, 155, 156, 2, 157, 147, 148, 149, 150, 151, 152, 153, 41, 154, 751, 752, 753, 37, 754, 102, 755, 103, 104, 105, 106, 756, 757, 758, 759, 760, 761, 762, 763, 764, 765, 766, 767, 768, 769, 770, 325, 326, 19, 327, 78, 83, 771, 772, 773, 774, 775, 776, 777, 943, 944, 945, 946, 947, 948, 949, 950, 951, 952, 953, 954, 955, 956, 957, 982, 983, 984, 985, 986, 987, 988, 989, 990, 991, 992, 993, 994, 995, 996, 997, 998, 1005, 1006, 1007, 1008, 1009, 999, 1000] (by decide +kernel) (by decide +kernel)
set_option maxRecDepth 20000 in
theorem gL_law_X6_voice : GoodIn wsL_law (wsV RL 112 RX6 yX6_voice wsX6_voice) := goodIn_app (goodIn_of _ (by decide +kernel)) ggL_law_X6_voice
set_option maxRecDepth 20000 in
theorem ggL_law_X7_voice : GoodIn wsL_law wsX7_voice := goodIn_r _ [781, 782, 783, 784, 242, 243, 5, 244, 165, 166, 167, 168, 169, 170, 171, 121, 172, 785, 786, 787, 788, 245, 246, 247, 248, 118, 789, 790, 791, 792, 793, 794, 795, 796, 129, 797, 798, 799, 800, 801, 802, 803, 804, 805, 806, 807, 808, 809, 810, 811, 812, 813, 814, 815, 958, 959, 960, 961, 962, 963, 964, 965, 966, 967, 968, 969, 970, 971, 972, 973, 974, 975, 976, 977, 978, 979, 980, 981] (by decide +kernel) (by decide +kernel)
set_option maxRecDepth 20000 in
theorem gL_law_X7_voice : GoodIn wsL_law (wsV RL 115 RX7 yX7_voice wsX7_voice) := goodIn_app (goodIn_of _ (by decide +kernel)) ggL_law_X7_voice
set_option maxRecDepth 20000 in
theorem ggL_law_X6_body : GoodIn wsL_law wsX6_body := goodIn_r _ [819, 38, 820, 323, 147, 148, 2, 149, 150, 151, 152, 153, 41, 154, 821, 195, 196, 19, 197, 78, 83, 943, 944, 945, 946, 947, 948, 949, 950, 951, 952, 953, 954, 955, 956, 957, 1005, 1006, 1007, 1008, 1009, 999, 1000] (by decide +kernel) (by decide +kernel)
set_option maxRecDepth 20000 in
theorem gL_law_X6_body : GoodIn wsL_law (wsV RL 116 RX6 yX6_body wsX6_body) := goodIn_app (goodIn_of _ (by decide +kernel)) ggL_law_X6_body
set_option maxRecDepth 20000 in
theorem ggL_law_X7_body : GoodIn wsL_law wsX7_body := goodIn_r _ [825, 782, 129, 165, 166, 5, 167, 168, 169, 170, 171, 121, 172, 958, 959, 960, 961, 962, 963, 964, 965, 966, 967, 968, 969, 970, 971, 972, 973, 974, 975, 976, 977, 978, 979, 980, 981] (by decide +kernel) (by decide +kernel)
set_option maxRecDepth 20000 in
theorem gL_law_X7_body : GoodIn wsL_law (wsV RL 119 RX7 yX7_body wsX7_body) := goodIn_app (goodIn_of _ (by decide +kernel)) ggL_law_X7_body
set_option maxRecDepth 20000 in
theorem ggL_law_X6_sheet : GoodIn wsL_law wsX6_sheet := goodIn_r _ [829, 40, 719, 720, 2, 721, 147, 148, 149, 150, 151, 152, 153, 41, 154, 830, 831, 832, 43, 833, 112, 834, 261, 81, 262, 835, 80, 82, 113, 111, 836, 85, 86, 87, 943, 944, 945, 946, 947, 948, 949, 950, 951, 952, 953, 954, 955, 956, 957, 1010, 1011, 1012] (by decide +kernel) (by decide +kernel)
set_option maxRecDepth 20000 in
theorem gL_law_X6_sheet : GoodIn wsL_law (wsV RL 120 RX6 yX6_sheet wsX6_sheet) := goodIn_app (goodIn_of _ (by decide +kernel)) ggL_law_X6_sheet
set_option maxRecDepth 20000 in
theorem ggL_law_X7_sheet : GoodIn wsL_law wsX7_sheet := goodIn_r _ [840, 130, 131, 132, 739, 740, 5, 741, 165, 166, 167, 168, 169, 170, 171, 121, 172, 958, 959, 960, 961, 962, 963, 964, 965, 966, 967, 968, 969, 970, 971, 972, 973, 974, 975, 976, 977, 978, 979, 980, 981] (by decide +kernel) (by decide +kernel)
set_option maxRecDepth 20000 in
theorem gL_law_X7_sheet : GoodIn wsL_law (wsV RL 123 RX7 yX7_sheet wsX7_sheet) := goodIn_app (goodIn_of _ (by decide +kernel)) ggL_law_X7_sheet
set_option maxRecDepth 20000 in
theorem ggL_law_X6_put : GoodIn wsL_law wsX6_put := goodIn_r _ [844, 40, 718, 719, 720, 2, 721, 147, 148, 149, 150, 151, 152, 153, 41, 154, 722, 723, 724, 43, 725, 112, 845, 846, 847, 848, 113, 111, 943, 944, 945, 946, 947, 948, 949, 950, 951, 952, 953, 954, 955, 956, 957, 1010, 1011, 1012] (by decide +kernel) (by decide +kernel)
set_option maxRecDepth 20000 in
theorem gL_law_X6_put : GoodIn wsL_law (wsV RL 124 RX6 yX6_put wsX6_put) := goodIn_app (goodIn_of _ (by decide +kernel)) ggL_law_X6_put
set_option maxRecDepth 20000 in
theorem ggL_law_X7_put : GoodIn wsL_law wsX7_put := goodIn_r _ [852, 130, 131, 132, 739, 740, 5, 741, 165, 166, 167, 168, 169, 170, 171, 121, 172, 958, 959, 960, 961, 962, 963, 964, 965, 966, 967, 968, 969, 970, 971, 972, 973, 974, 975, 976, 977, 978, 979, 980, 981] (by decide +kernel) (by decide +kernel)
set_option maxRecDepth 20000 in
theorem gL_law_X7_put : GoodIn wsL_law (wsV RL 127 RX7 yX7_put wsX7_put) := goodIn_app (goodIn_of _ (by decide +kernel)) ggL_law_X7_put
set_option maxRecDepth 20000 in
theorem ggL_law_X6_move : GoodIn wsL_law wsX6_move := goodIn_r _ [856, 40, 857, 858, 655, 350, 351, 352, 719, 720, 2, 721, 147, 148, 149, 150, 151, 152, 153, 41, 154, 722, 723, 724, 43, 725, 112, 859, 860, 861, 862, 113, 943, 944, 945, 946, 947, 948, 949, 950, 951, 952, 953, 954, 955, 956, 957, 1010, 1011, 1012] (by decide +kernel) (by decide +kernel)
set_option maxRecDepth 20000 in
theorem gL_law_X6_move : GoodIn wsL_law (wsV RL 128 RX6 yX6_move wsX6_move) := goodIn_app (goodIn_of _ (by decide +kernel)) ggL_law_X6_move
set_option maxRecDepth 20000 in
theorem ggL_law_X7_move : GoodIn wsL_law wsX7_move := goodIn_r _ [866, 130, 131, 133, 132, 739, 740, 5, 741, 165, 166, 167, 168, 169, 170, 171, 121, 172, 958, 959, 960, 961, 962, 963, 964, 965, 966, 967, 968, 969, 970, 971, 972, 973, 974, 975, 976, 977, 978, 979, 980, 981] (by decide +kernel) (by decide +kernel)
set_option maxRecDepth 20000 in
theorem gL_law_X7_move : GoodIn wsL_law (wsV RL 132 RX7 yX7_move wsX7_move) := goodIn_app (goodIn_of _ (by decide +kernel)) ggL_law_X7_move
set_option maxRecDepth 20000 in
theorem ggL_law_X6_unders : GoodIn wsL_law wsX6_unders := goodIn_r _ [870, 40, 718, 871, 261, 81, 262, 16, 143, 719, 720, 2, 721, 147, 148, 149, 150, 151, 152, 153, 41, 154, 722, 723, 724, 43, 725, 112, 872, 873, 874, 875, 113, 111, 943, 944, 945, 946, 947, 948, 949, 950, 951, 952, 953, 954, 955, 956, 957, 1010, 1011, 1012, 982, 983, 984, 985, 986, 987, 988, 989, 990, 991, 992, 993, 994, 995, 996, 997, 998] (by decide +kernel) (by decide +kernel)
set_option maxRecDepth 20000 in
theorem gL_law_X6_unders : GoodIn wsL_law (wsV RL 133 RX6 yX6_unders wsX6_unders) := goodIn_app (goodIn_of _ (by decide +kernel)) ggL_law_X6_unders
set_option maxRecDepth 20000 in
theorem ggL_law_X7_unders : GoodIn wsL_law wsX7_unders := goodIn_r _ [879, 131, 132, 118, 880, 881, 882, 5, 883, 130, 739, 740, 741, 165, 166, 167, 168, 169, 170, 171, 121, 172, 958, 959, 960, 961, 962, 963, 964, 965, 966, 967, 968, 969, 970, 971, 972, 973, 974, 975, 976, 977, 978, 979, 980, 981] (by decide +kernel) (by decide +kernel)
set_option maxRecDepth 20000 in
theorem gL_law_X7_unders : GoodIn wsL_law (wsV RL 136 RX7 yX7_unders wsX7_unders) := goodIn_app (goodIn_of _ (by decide +kernel)) ggL_law_X7_unders
