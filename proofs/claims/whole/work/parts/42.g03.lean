set_option maxRecDepth 20000 in
theorem ggL_law_X8_borne : GoodIn wsL_law wsX8_borne := goodIn_r _ [280, 19, 134, 135, 2, 136, 137, 138, 139, 281, 282, 283, 284, 285, 286, 287, 288, 18, 289, 56, 923, 924, 925, 926, 927, 928, 929, 930, 931, 958, 959, 960, 961] (by decide +kernel) (by decide +kernel)
set_option maxRecDepth 20000 in
theorem gL_law_X8_borne : GoodIn wsL_law (wsV RL 45 RX8 yX8_borne wsX8_borne) := goodIn_app (goodIn_of _ (by decide +kernel)) ggL_law_X8_borne
set_option maxRecDepth 20000 in
theorem ggL_law_X9_borne : GoodIn wsL_law wsX9_borne := goodIn_r _ [293, 115, 147, 148, 5, 149, 150, 151, 152, 294, 295, 296, 297, 239, 235, 236, 237, 238, 213, 114, 240, 241, 242, 932, 933, 934, 935, 936, 937, 938, 939, 940, 941, 942, 943, 944, 945, 946, 947, 948, 949, 950, 951, 952, 953, 954, 955] (by decide +kernel) (by decide +kernel)
set_option maxRecDepth 20000 in
theorem gL_law_X9_borne : GoodIn wsL_law (wsV RL 48 RX9 yX9_borne wsX9_borne) := goodIn_app (goodIn_of _ (by decide +kernel)) ggL_law_X9_borne
set_option maxRecDepth 20000 in
theorem ggL_law_X8_purse : GoodIn wsL_law wsX8_purse := goodIn_r _ [301, 23, 134, 135, 2, 136, 137, 138, 139, 302, 303, 304, 305, 19, 285, 306, 307, 308, 22, 309, 64, 65, 310, 287, 288, 18, 289, 56, 311, 312, 313, 14, 314, 52, 315, 167, 168, 169, 51, 923, 924, 925, 926, 927, 928, 929, 930, 931, 958, 959, 960, 961, 962, 963, 956, 957] (by decide +kernel) (by decide +kernel)
set_option maxRecDepth 20000 in
theorem gL_law_X8_purse : GoodIn wsL_law (wsV RL 49 RX8 yX8_purse wsX8_purse) := goodIn_app (goodIn_of _ (by decide +kernel)) ggL_law_X8_purse
set_option maxRecDepth 20000 in
theorem ggL_law_X9_purse : GoodIn wsL_law wsX9_purse := goodIn_r _ [319, 147, 148, 5, 149, 150, 151, 152, 320, 321, 322, 323, 239, 235, 236, 237, 238, 213, 114, 115, 240, 241, 242, 324, 325, 326, 327, 328, 329, 330, 331, 113, 174, 175, 176, 177, 109, 111, 110, 112, 932, 933, 934, 935, 936, 937, 938, 939, 940, 941, 942, 943, 944, 945, 946, 947, 948, 949, 950, 951, 952, 953, 954, 955] (by decide +kernel) (by decide +kernel)
set_option maxRecDepth 20000 in
theorem gL_law_X9_purse : GoodIn wsL_law (wsV RL 52 RX9 yX9_purse wsX9_purse) := goodIn_app (goodIn_of _ (by decide +kernel)) ggL_law_X9_purse
set_option maxRecDepth 20000 in
theorem ggL_law_X8_debt : GoodIn wsL_law wsX8_debt := goodIn_r _ [335, 23, 134, 135, 2, 136, 137, 138, 139, 302, 303, 304, 305, 19, 285, 336, 337, 338, 22, 339, 64, 340, 341, 342, 343, 344, 345, 346, 347, 348, 65, 310, 287, 288, 18, 289, 56, 349, 167, 168, 14, 169, 51, 52, 350, 923, 924, 925, 926, 927, 928, 929, 930, 931, 958, 959, 960, 961, 962, 963, 956, 957] (by decide +kernel) (by decide +kernel)
set_option maxRecDepth 20000 in
theorem gL_law_X8_debt : GoodIn wsL_law (wsV RL 53 RX8 yX8_debt wsX8_debt) := goodIn_app (goodIn_of _ (by decide +kernel)) ggL_law_X8_debt
set_option maxRecDepth 20000 in
theorem ggL_law_X9_debt : GoodIn wsL_law wsX9_debt := goodIn_r _ [354, 147, 148, 5, 149, 150, 151, 152, 320, 321, 322, 323, 239, 235, 236, 237, 238, 213, 114, 115, 240, 241, 242, 355, 356, 357, 358, 113, 174, 175, 176, 177, 109, 111, 110, 112, 932, 933, 934, 935, 936, 937, 938, 939, 940, 941, 942, 943, 944, 945, 946, 947, 948, 949, 950, 951, 952, 953, 954, 955] (by decide +kernel) (by decide +kernel)
set_option maxRecDepth 20000 in
theorem gL_law_X9_debt : GoodIn wsL_law (wsV RL 56 RX9 yX9_debt wsX9_debt) := goodIn_app (goodIn_of _ (by decide +kernel)) ggL_law_X9_debt
set_option maxRecDepth 20000 in
theorem ggL_law_X8_been : GoodIn wsL_law wsX8_been := goodIn_r _ [362, 23, 134, 135, 2, 136, 137, 138, 139, 302, 303, 304, 305, 19, 285, 363, 364, 365, 22, 366, 65, 310, 287, 288, 18, 289, 56, 923, 924, 925, 926, 927, 928, 929, 930, 931, 958, 959, 960, 961, 962, 963] (by decide +kernel) (by decide +kernel)
set_option maxRecDepth 20000 in
theorem gL_law_X8_been : GoodIn wsL_law (wsV RL 57 RX8 yX8_been wsX8_been) := goodIn_app (goodIn_of _ (by decide +kernel)) ggL_law_X8_been
set_option maxRecDepth 20000 in
theorem ggL_law_X9_been : GoodIn wsL_law wsX9_been := goodIn_r _ [370, 147, 148, 5, 149, 150, 151, 152, 320, 321, 322, 323, 239, 235, 236, 237, 238, 213, 114, 115, 240, 241, 242, 371, 372, 373, 374, 932, 933, 934, 935, 936, 937, 938, 939, 940, 941, 942, 943, 944, 945, 946, 947, 948, 949, 950, 951, 952, 953, 954, 955] (by decide +kernel) (by decide +kernel)
set_option maxRecDepth 20000 in
theorem gL_law_X9_been : GoodIn wsL_law (wsV RL 60 RX9 yX9_been wsX9_been) := goodIn_app (goodIn_of _ (by decide +kernel)) ggL_law_X9_been
