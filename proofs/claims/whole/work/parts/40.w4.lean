set_option maxRecDepth 20000 in
theorem in_wsL_law_r25 : ∀ w ∈ wsL_law_r25, w ∈ lw_tbl := fun w h => (goodIn_r wsL_law_r25 [531, 532, 533, 534, 535, 991, 992, 993, 994, 995, 997, 39, 998, 536, 537, 538, 539, 540, 541, 542, 543, 544, 545, 546] (by decide +kernel) (by decide +kernel) w h).1
set_option maxRecDepth 20000 in
theorem in_wsL_law_r26 : ∀ w ∈ wsL_law_r26, w ∈ lw_tbl := fun w h => (goodIn_r wsL_law_r26 [547, 548, 549, 999, 1000, 1001, 1002, 1003, 1005, 40, 1006, 550, 551, 552, 553, 554, 555, 556, 557, 558, 1007, 1008, 1009, 1010] (by decide +kernel) (by decide +kernel) w h).1
set_option maxRecDepth 20000 in
theorem in_wsL_law_r27 : ∀ w ∈ wsL_law_r27, w ∈ lw_tbl := fun w h => (goodIn_r wsL_law_r27 [1011, 1013, 41, 1014, 1015, 559, 560, 561, 562, 141, 563, 564, 565, 566, 1016, 1017, 1018, 1019, 759, 567, 568, 569, 570, 571] (by decide +kernel) (by decide +kernel) w h).1
set_option maxRecDepth 20000 in
theorem in_wsL_law_r28 : ∀ w ∈ wsL_law_r28, w ∈ lw_tbl := fun w h => (goodIn_r wsL_law_r28 [572, 573, 574, 575, 577, 15, 578, 104, 579, 580, 581, 582, 584, 16, 585, 586, 1020, 1021, 1022, 1023, 1024, 1026, 42, 1027] (by decide +kernel) (by decide +kernel) w h).1
set_option maxRecDepth 20000 in
theorem in_wsL_law_r29 : ∀ w ∈ wsL_law_r29, w ∈ lw_tbl := fun w h => (goodIn_r wsL_law_r29 [587, 588, 589, 590, 1028, 1029, 1030, 1031, 591, 592, 593, 594, 595, 596, 597, 598, 1032, 1033, 1034, 1035, 1036, 1038, 43, 1039] (by decide +kernel) (by decide +kernel) w h).1
set_option maxRecDepth 20000 in
theorem in_wsL_law_r30 : ∀ w ∈ wsL_law_r30, w ∈ lw_tbl := fun w h => (goodIn_r wsL_law_r30 [599, 600, 601, 602, 164, 603, 604, 605, 606, 1040, 1041, 1042, 1043, 763, 607, 608, 609, 610, 611, 612, 613, 614, 615, 616] (by decide +kernel) (by decide +kernel) w h).1
set_option maxRecDepth 20000 in
theorem in_wsL_law_r31 : ∀ w ∈ wsL_law_r31, w ∈ lw_tbl := fun w h => (goodIn_r wsL_law_r31 [617, 618, 1044, 1045, 1046, 1047, 619, 620, 621, 622, 623, 625, 17, 626, 627, 628, 629, 630, 83, 1048, 1049, 1050, 1051, 1052] (by decide +kernel) (by decide +kernel) w h).1
set_option maxRecDepth 20000 in
theorem in_wsL_law_r32 : ∀ w ∈ wsL_law_r32, w ∈ lw_tbl := fun w h => (goodIn_r wsL_law_r32 [1054, 44, 1055, 1056, 1058, 45, 1059, 631, 632, 633, 634, 1060, 1061, 1062, 1063, 1064, 1066, 46, 1067, 635, 636, 637, 638, 639] (by decide +kernel) (by decide +kernel) w h).1
