set_option maxRecDepth 20000 in
theorem in_wsL_law_r17 : ∀ w ∈ wsL_law_r17, w ∈ lw_tbl := fun w h => (goodIn_r wsL_law_r17 [919, 920, 921, 922, 923, 925, 30, 926, 413, 414, 415, 416, 927, 928, 929, 930, 931, 933, 31, 934, 417, 418, 419, 420] (by decide +kernel) (by decide +kernel) w h).1
set_option maxRecDepth 20000 in
theorem in_wsL_law_r18 : ∀ w ∈ wsL_law_r18, w ∈ lw_tbl := fun w h => (goodIn_r wsL_law_r18 [421, 423, 7, 424, 183, 425, 426, 427, 428, 429, 430, 431, 432, 433, 435, 8, 436, 437, 438, 61, 439, 440, 441, 442] (by decide +kernel) (by decide +kernel) w h).1
set_option maxRecDepth 20000 in
theorem in_wsL_law_r19 : ∀ w ∈ wsL_law_r19, w ∈ lw_tbl := fun w h => (goodIn_r wsL_law_r19 [443, 445, 9, 446, 447, 449, 10, 450, 451, 452, 453, 454, 455, 456, 457, 458, 459, 461, 11, 462, 935, 936, 937, 938] (by decide +kernel) (by decide +kernel) w h).1
set_option maxRecDepth 20000 in
theorem in_wsL_law_r20 : ∀ w ∈ wsL_law_r20, w ∈ lw_tbl := fun w h => (goodIn_r wsL_law_r20 [939, 941, 32, 942, 943, 945, 33, 946, 947, 949, 34, 950, 463, 464, 465, 466, 467, 468, 469, 470, 471, 472, 473, 474] (by decide +kernel) (by decide +kernel) w h).1
set_option maxRecDepth 20000 in
theorem in_wsL_law_r21 : ∀ w ∈ wsL_law_r21, w ∈ lw_tbl := fun w h => (goodIn_r wsL_law_r21 [475, 476, 477, 478, 479, 480, 951, 952, 953, 954, 955, 957, 35, 958, 959, 960, 961, 962, 963, 964, 965, 481, 482, 483] (by decide +kernel) (by decide +kernel) w h).1
set_option maxRecDepth 20000 in
theorem in_wsL_law_r22 : ∀ w ∈ wsL_law_r22, w ∈ lw_tbl := fun w h => (goodIn_r wsL_law_r22 [484, 485, 966, 967, 968, 969, 970, 972, 36, 973, 974, 486, 487, 488, 489, 490, 491, 492, 493, 494, 495, 497, 12, 498] (by decide +kernel) (by decide +kernel) w h).1
set_option maxRecDepth 20000 in
theorem in_wsL_law_r23 : ∀ w ∈ wsL_law_r23, w ∈ lw_tbl := fun w h => (goodIn_r wsL_law_r23 [505, 506, 62, 507, 499, 501, 503, 13, 504, 508, 509, 510, 511, 512, 513, 514, 515, 516, 518, 14, 519, 975, 976, 977] (by decide +kernel) (by decide +kernel) w h).1
set_option maxRecDepth 20000 in
theorem in_wsL_law_r24 : ∀ w ∈ wsL_law_r24, w ∈ lw_tbl := fun w h => (goodIn_r wsL_law_r24 [978, 979, 981, 37, 982, 520, 521, 522, 523, 524, 525, 526, 527, 983, 984, 985, 986, 987, 989, 38, 990, 528, 529, 530] (by decide +kernel) (by decide +kernel) w h).1
