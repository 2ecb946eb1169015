set_option maxRecDepth 20000 in
theorem ggc_X9_digest_0 : GoodIn wsL_law (wsX9_digest.take 40) := goodIn_r _ [919, 920, 921, 239, 922, 880, 881, 5, 882, 213, 642, 709, 276, 883, 884, 885, 886, 235, 236, 237, 238, 114, 115, 147, 148, 149, 150, 151, 152, 240, 241, 242, 174, 175, 176, 177, 109, 111, 110, 112] (by decide +kernel) (by decide +kernel)
set_option maxRecDepth 20000 in
theorem ggc_X9_digest_1 : GoodIn wsL_law ((wsX9_digest.drop 40).take 40) := goodIn_r _ [324, 325, 326, 327, 328, 329, 330, 331, 113, 355, 356, 357, 358, 371, 372, 373, 374, 388, 389, 390, 391, 400, 401, 402, 403, 456, 457, 458, 459, 116, 460, 461, 462, 463, 464, 465, 466, 467, 490, 491] (by decide +kernel) (by decide +kernel)
