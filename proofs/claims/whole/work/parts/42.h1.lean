theorem goodIn_td {big ws : List Cond} (n : Nat) (h1 : GoodIn big (ws.take n)) (h2 : GoodIn big (ws.drop n)) : GoodIn big ws := fun w hw => by
  rw [← List.take_append_drop n ws] at hw
  exact (List.mem_append.mp hw).elim (h1 w) (h2 w)
set_option maxRecDepth 20000 in
theorem ggc_X8_digest_0 : GoodIn wsL_law (wsX8_digest.take 40) := goodIn_r _ [890, 891, 892, 19, 285, 893, 856, 857, 2, 858, 182, 27, 633, 31, 700, 15, 23, 42, 859, 860, 861, 14, 862, 863, 414, 415, 416, 315, 167, 168, 169, 51, 52, 864, 426, 427, 428, 429, 430, 431] (by decide +kernel) (by decide +kernel)
set_option maxRecDepth 20000 in
theorem ggc_X8_digest_1 : GoodIn wsL_law ((wsX8_digest.drop 40).take 40) := goodIn_r _ [865, 866, 867, 22, 868, 65, 383, 869, 307, 308, 309, 64, 310, 287, 288, 18, 289, 56, 311, 312, 313, 314, 870, 871, 872, 873, 874, 337, 338, 339, 340, 341, 342, 343, 344, 345, 346, 347, 348, 349] (by decide +kernel) (by decide +kernel)
set_option maxRecDepth 20000 in
theorem ggc_X8_digest_2 : GoodIn wsL_law ((wsX8_digest.drop 80).take 40) := goodIn_r _ [875, 876, 877, 878, 894, 227, 228, 229, 230, 895, 896, 897, 898, 899, 299, 300, 301, 134, 135, 136, 137, 138, 139, 302, 303, 304, 305, 306, 900, 360, 361, 362, 363, 364, 365, 366, 901, 376, 377, 378] (by decide +kernel) (by decide +kernel)
set_option maxRecDepth 20000 in
theorem ggc_X8_digest_3 : GoodIn wsL_law ((wsX8_digest.drop 120).take 40) := goodIn_r _ [379, 380, 381, 382, 902, 393, 394, 395, 903, 405, 406, 407, 35, 408, 409, 410, 411, 412, 413, 417, 418, 419, 34, 420, 88, 89, 421, 422, 423, 424, 425, 432, 433, 434, 435, 87, 436, 437, 438, 439] (by decide +kernel) (by decide +kernel)
set_option maxRecDepth 20000 in
theorem ggc_X8_digest_4 : GoodIn wsL_law ((wsX8_digest.drop 160).take 40) := goodIn_r _ [440, 441, 442, 443, 444, 445, 446, 447, 448, 449, 450, 451, 904, 469, 470, 471, 472, 473, 474, 475, 476, 477, 478, 479, 480, 481, 482, 483, 484, 485, 905, 502, 503, 504, 505, 906, 516, 517, 518, 39] (by decide +kernel) (by decide +kernel)
