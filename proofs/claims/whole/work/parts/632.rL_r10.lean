/-! the words of X10_read among the law's -/
set_option maxRecDepth 20000 in
theorem gr10_c : GoodIn wsL_law ([Cond.codeWith yX10_read cX10_read 3 (some .int) [(91, 189, 192, 23)]] : List Cond) := goodIn_r _ [444] (by decide +kernel) (by decide +kernel)
set_option maxRecDepth 20000 in
theorem gr10_r1 : GoodIn wsL_law wsX10_read_r1 := goodIn_r _ [83, 154, 94, 90, 445, 446, 447, 92, 448, 449, 450, 451, 452, 453, 454, 93, 455, 143, 144, 145, 89, 456, 457, 458] (by decide +kernel) (by decide +kernel)
set_option maxRecDepth 20000 in
theorem gr10_r2 : GoodIn wsL_law wsX10_read_r2 := goodIn_r _ [459, 5, 460, 461, 462, 463, 464, 465, 466, 467, 468, 469, 470, 471, 472, 473, 474, 475, 476, 477, 478, 479, 480, 481] (by decide +kernel) (by decide +kernel)
set_option maxRecDepth 20000 in
theorem gr10_r3 : GoodIn wsL_law wsX10_read_r3 := goodIn_r _ [482, 483, 484, 485, 486, 487, 488, 489, 490, 491, 492, 493, 494, 495, 225, 226, 227, 228, 229, 230, 231, 232, 233, 234] (by decide +kernel) (by decide +kernel)
set_option maxRecDepth 20000 in
theorem gr10_r4 : GoodIn wsL_law wsX10_read_r4 := goodIn_r _ [235, 496, 241, 242, 243, 244, 245, 246, 247, 248, 249, 250, 251, 252, 253, 254, 255, 256, 257, 258, 259, 260, 261, 262] (by decide +kernel) (by decide +kernel)
set_option maxRecDepth 20000 in
theorem gr10_r5 : GoodIn wsL_law wsX10_read_r5 := goodIn_r _ [263, 264, 265, 266, 267, 268, 269, 270, 271, 272, 273, 274, 275, 276, 497, 498, 499, 500, 501, 502, 503, 504, 505, 506] (by decide +kernel) (by decide +kernel)
set_option maxRecDepth 20000 in
theorem gr10_r6 : GoodIn wsL_law wsX10_read_r6 := goodIn_r _ [507, 508, 509, 510, 511, 512, 513, 514, 515, 516, 517, 518, 519, 520, 521, 522, 523, 524, 525, 526, 527, 528, 529, 530] (by decide +kernel) (by decide +kernel)
set_option maxRecDepth 20000 in
theorem gr10_r7 : GoodIn wsL_law wsX10_read_r7 := goodIn_r _ [531, 532, 533, 534, 535, 536, 537, 538, 539, 540, 541, 542, 543, 544, 545, 546, 547, 548, 549, 550, 551, 552, 553, 554] (by decide +kernel) (by decide +kernel)
set_option maxRecDepth 20000 in
theorem gr10_r8 : GoodIn wsL_law wsX10_read_r8 := goodIn_r _ [555, 556, 557, 558, 559, 560, 561, 562, 563, 564, 565, 566, 567, 568, 569, 570, 571, 572, 573, 574, 575, 576, 577, 578] (by decide +kernel) (by decide +kernel)
set_option maxRecDepth 20000 in
theorem gr10_r9 : GoodIn wsL_law wsX10_read_r9 := goodIn_r _ [579, 580, 581, 582, 583, 584, 585, 586, 587, 588, 589, 95, 590, 591, 592, 593, 594, 595, 596, 597, 598, 599, 600, 601] (by decide +kernel) (by decide +kernel)
set_option maxRecDepth 20000 in
theorem gr10_wsX100 : GoodIn wsL_law wsX100 := goodIn_r _ [838, 839, 840, 841, 842, 843, 844, 845, 846, 847, 848, 849, 850, 851, 852, 853, 854, 855, 856] (by decide +kernel) (by decide +kernel)
set_option maxRecDepth 20000 in
theorem gr10_wsX90 : GoodIn wsL_law wsX90 := goodIn_r _ [882, 883, 884, 885, 886, 887, 888, 889, 890, 891, 892, 893, 894] (by decide +kernel) (by decide +kernel)
theorem ggL_law_X10_read : GoodIn wsL_law wsX10_read := fun w h => (List.mem_cons.mp h).elim (fun e => gr10_c w (List.mem_singleton.mpr e)) ((goodIn_app (goodIn_app (goodIn_app gr10_r1 (goodIn_app gr10_r2 (goodIn_app gr10_r3 (goodIn_app gr10_r4 (goodIn_app gr10_r5 (goodIn_app gr10_r6 (goodIn_app gr10_r7 (goodIn_app gr10_r8 (gr10_r9))))))))) gr10_wsX100) gr10_wsX90) w)
set_option maxRecDepth 20000 in
theorem gL_law_X10_read : GoodIn wsL_law (wsV RL 27 RX10 yX10_read wsX10_read) := goodIn_app (goodIn_of _ (by decide +kernel)) ggL_law_X10_read
