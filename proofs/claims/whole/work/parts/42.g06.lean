set_option maxRecDepth 20000 in
theorem ggL_law_X8_returns : GoodIn wsL_law wsX8_returns := goodIn_r _ [592, 23, 281, 282, 283, 2, 284, 19, 285, 137, 138, 139, 134, 135, 136, 593, 594, 595, 22, 596, 597, 598, 599, 600, 601, 578, 579, 580, 65, 310, 287, 288, 18, 289, 56, 602, 923, 924, 925, 926, 927, 928, 929, 930, 931, 958, 959, 960, 961, 962, 963] (by decide +kernel) (by decide +kernel)
set_option maxRecDepth 20000 in
theorem gL_law_X8_returns : GoodIn wsL_law (wsV RL 95 RX8 yX8_returns wsX8_returns) := goodIn_app (goodIn_of _ (by decide +kernel)) ggL_law_X8_returns
set_option maxRecDepth 20000 in
theorem ggL_law_X9_returns : GoodIn wsL_law wsX9_returns := goodIn_r _ [606, 294, 295, 296, 5, 297, 239, 235, 236, 237, 238, 213, 114, 115, 147, 148, 149, 150, 151, 152, 240, 241, 242, 607, 608, 609, 610, 585, 586, 587, 588, 932, 933, 934, 935, 936, 937, 938, 939, 940, 941, 942, 943, 944, 945, 946, 947, 948, 949, 950, 951, 952, 953, 954, 955] (by decide +kernel) (by decide +kernel)
set_option maxRecDepth 20000 in
theorem gL_law_X9_returns : GoodIn wsL_law (wsV RL 98 RX9 yX9_returns wsX9_returns) := goodIn_app (goodIn_of _ (by decide +kernel)) ggL_law_X9_returns
set_option maxRecDepth 20000 in
theorem ggL_law_X8_lot : GoodIn wsL_law wsX8_lot := goodIn_r _ [614, 615, 134, 135, 2, 136, 137, 138, 139, 616, 617, 618, 619, 203, 204] (by decide +kernel) (by decide +kernel)
set_option maxRecDepth 20000 in
theorem gL_law_X8_lot : GoodIn wsL_law (wsV RL 99 RX8 yX8_lot wsX8_lot) := goodIn_app (goodIn_of _ (by decide +kernel)) ggL_law_X8_lot
set_option maxRecDepth 20000 in
theorem ggL_law_X9_lot : GoodIn wsL_law wsX9_lot := goodIn_r _ [623, 147, 148, 5, 149, 150, 151, 152, 624, 625, 626, 627, 628, 116, 240, 241, 242, 932, 933, 934, 935, 936, 937, 938, 939, 940, 941, 942, 943, 944, 945, 946, 947, 948, 949, 950, 951, 952, 953, 954, 955] (by decide +kernel) (by decide +kernel)
set_option maxRecDepth 20000 in
theorem gL_law_X9_lot : GoodIn wsL_law (wsV RL 102 RX9 yX9_lot wsX9_lot) := goodIn_app (goodIn_of _ (by decide +kernel)) ggL_law_X9_lot
set_option maxRecDepth 20000 in
theorem ggL_law_X8_claim : GoodIn wsL_law wsX8_claim := goodIn_r _ [632, 27, 633, 134, 135, 2, 136, 137, 138, 139, 634, 635, 636, 26, 637, 73, 70, 71, 72, 923, 924, 925, 926, 927, 928, 929, 930, 931, 964, 965, 966, 967, 968] (by decide +kernel) (by decide +kernel)
set_option maxRecDepth 20000 in
theorem gL_law_X8_claim : GoodIn wsL_law (wsV RL 103 RX8 yX8_claim wsX8_claim) := goodIn_app (goodIn_of _ (by decide +kernel)) ggL_law_X8_claim
set_option maxRecDepth 20000 in
theorem ggL_law_X9_claim : GoodIn wsL_law wsX9_claim := goodIn_r _ [641, 642, 117, 118, 119, 147, 148, 5, 149, 150, 151, 152, 932, 933, 934, 935, 936, 937, 938, 939, 940, 941, 942, 943, 944, 945, 946, 947, 948, 949, 950, 951, 952, 953, 954, 955] (by decide +kernel) (by decide +kernel)
set_option maxRecDepth 20000 in
theorem gL_law_X9_claim : GoodIn wsL_law (wsV RL 106 RX9 yX9_claim wsX9_claim) := goodIn_app (goodIn_of _ (by decide +kernel)) ggL_law_X9_claim
set_option maxRecDepth 20000 in
theorem ggL_law_X8_owed : GoodIn wsL_law wsX8_owed := goodIn_r _ [646, 27, 134, 135, 2, 136, 137, 138, 139, 647, 648, 649, 26, 650, 73, 72, 70, 651, 652, 653, 654, 71, 74, 655, 656, 657, 658, 659, 660, 661, 662, 663, 287, 288, 18, 289, 56, 923, 924, 925, 926, 927, 928, 929, 930, 931, 964, 965, 966, 967, 968, 958, 959, 960, 961] (by decide +kernel) (by decide +kernel)
set_option maxRecDepth 20000 in
theorem gL_law_X8_owed : GoodIn wsL_law (wsV RL 107 RX8 yX8_owed wsX8_owed) := goodIn_app (goodIn_of _ (by decide +kernel)) ggL_law_X8_owed
set_option maxRecDepth 20000 in
theorem ggL_law_X9_owed : GoodIn wsL_law wsX9_owed := goodIn_r _ [667, 147, 148, 5, 149, 150, 151, 152, 668, 669, 670, 671, 642, 118, 239, 119, 117, 115, 235, 236, 237, 238, 213, 114, 240, 241, 242, 932, 933, 934, 935, 936, 937, 938, 939, 940, 941, 942, 943, 944, 945, 946, 947, 948, 949, 950, 951, 952, 953, 954, 955] (by decide +kernel) (by decide +kernel)
set_option maxRecDepth 20000 in
theorem gL_law_X9_owed : GoodIn wsL_law (wsV RL 110 RX9 yX9_owed wsX9_owed) := goodIn_app (goodIn_of _ (by decide +kernel)) ggL_law_X9_owed
