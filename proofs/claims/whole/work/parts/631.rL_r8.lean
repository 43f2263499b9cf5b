/-! the words of X8_read among the law's -/
set_option maxRecDepth 20000 in
theorem gr8_c : GoodIn wsL_law ([Cond.code yX8_read cX8_read 2 (some .int)] : List Cond) := goodIn_r _ [176] (by decide +kernel) (by decide +kernel)
set_option maxRecDepth 20000 in
theorem gr8_r1 : GoodIn wsL_law wsX8_read_r1 := goodIn_r _ [20, 16, 33, 29, 36, 28, 34, 177, 178, 179, 19, 180, 50, 51, 52, 181, 53, 182, 166, 167, 15, 168, 44, 183] (by decide +kernel) (by decide +kernel)
set_option maxRecDepth 20000 in
theorem gr8_r2 : GoodIn wsL_law wsX8_read_r2 := goodIn_r _ [121, 122, 123, 184, 185, 186, 187, 188, 189, 190, 191, 192, 193, 194, 195, 43, 196, 197, 198, 199, 200, 201, 202, 203] (by decide +kernel) (by decide +kernel)
set_option maxRecDepth 20000 in
theorem gr8_r3 : GoodIn wsL_law wsX8_read_r3 := goodIn_r _ [204, 205, 206, 207, 208, 129, 130, 131, 41, 132, 133, 134, 135, 136, 137, 138, 139, 140, 141, 42, 142, 143, 144, 145] (by decide +kernel) (by decide +kernel)
set_option maxRecDepth 20000 in
theorem gr8_r4 : GoodIn wsL_law wsX8_read_r4 := goodIn_r _ [146, 147, 148, 149, 209, 210, 211, 212, 213, 214, 215, 216, 217, 218, 219, 220, 221, 222, 223, 224, 225, 226, 227, 228] (by decide +kernel) (by decide +kernel)
set_option maxRecDepth 20000 in
theorem gr8_r5 : GoodIn wsL_law wsX8_read_r5 := goodIn_r _ [229, 230, 231, 232, 233, 234, 235, 236, 237, 238, 239, 240, 241, 242, 243, 244, 245, 246, 247, 248, 249, 250, 251, 252] (by decide +kernel) (by decide +kernel)
set_option maxRecDepth 20000 in
theorem gr8_r6 : GoodIn wsL_law wsX8_read_r6 := goodIn_r _ [253, 254, 255, 256, 257, 258, 259, 260, 261, 262, 263, 264, 265, 266, 267, 268, 269, 270, 271, 272, 273, 274, 275, 276] (by decide +kernel) (by decide +kernel)
set_option maxRecDepth 20000 in
theorem gr8_r7 : GoodIn wsL_law wsX8_read_r7 := goodIn_r _ [277, 278, 279, 165, 280, 281, 282, 32, 283, 79, 284, 78, 285, 286, 287, 27, 288, 65, 66, 67, 68, 69, 70, 71] (by decide +kernel) (by decide +kernel)
set_option maxRecDepth 20000 in
theorem gr8_r8 : GoodIn wsL_law wsX8_read_r8 := goodIn_r _ [72, 289, 290, 291, 292, 293, 294, 295, 296, 297, 298, 299, 300, 301, 302, 303, 304, 305, 306, 307, 308, 309, 310, 311] (by decide +kernel) (by decide +kernel)
set_option maxRecDepth 20000 in
theorem gr8_r9 : GoodIn wsL_law wsX8_read_r9 := goodIn_r _ [312, 313, 314, 315, 316, 317, 318, 319, 320, 321, 322, 323, 324, 325, 326, 327, 328, 329, 330, 331, 332, 333, 334, 335] (by decide +kernel) (by decide +kernel)
set_option maxRecDepth 20000 in
theorem gr8_r10 : GoodIn wsL_law wsX8_read_r10 := goodIn_r _ [336, 337, 338, 339, 340, 341, 342, 343, 344, 345, 346, 347, 348, 349, 350, 351, 352, 353, 354, 355, 356, 357, 358, 359] (by decide +kernel) (by decide +kernel)
set_option maxRecDepth 20000 in
theorem gr8_r11 : GoodIn wsL_law wsX8_read_r11 := goodIn_r _ [360, 361, 362, 363, 364, 365, 366, 367, 368, 369, 370, 371, 372, 373, 374, 375, 376, 377, 378, 379, 380, 381, 382, 383] (by decide +kernel) (by decide +kernel)
set_option maxRecDepth 20000 in
theorem gr8_r12 : GoodIn wsL_law wsX8_read_r12 := goodIn_r _ [384, 385, 386, 387, 388, 389, 390, 391, 392, 393, 394, 395, 396, 397, 398, 399, 400, 401, 402, 403, 404, 405, 406, 407] (by decide +kernel) (by decide +kernel)
set_option maxRecDepth 20000 in
theorem gr8_r13 : GoodIn wsL_law wsX8_read_r13 := goodIn_r _ [408, 409, 410, 411, 412, 413, 414, 415, 416, 417, 418, 419, 420, 421, 422, 423, 424, 425, 426, 427, 428, 429, 430, 431] (by decide +kernel) (by decide +kernel)
set_option maxRecDepth 20000 in
theorem gr8_r14 : GoodIn wsL_law wsX8_read_r14 := goodIn_r _ [432, 433, 434, 435, 436, 437, 438, 439, 440] (by decide +kernel) (by decide +kernel)
set_option maxRecDepth 20000 in
theorem gr8_wsX80 : GoodIn wsL_law wsX80 := goodIn_r _ [829, 830, 831, 832, 833, 834, 835, 836, 837] (by decide +kernel) (by decide +kernel)
set_option maxRecDepth 20000 in
theorem gr8_wsX60 : GoodIn wsL_law wsX60 := goodIn_r _ [860, 861, 862, 863, 864] (by decide +kernel) (by decide +kernel)
set_option maxRecDepth 20000 in
theorem gr8_wsX50 : GoodIn wsL_law wsX50 := goodIn_r _ [857, 858, 859] (by decide +kernel) (by decide +kernel)
set_option maxRecDepth 20000 in
theorem gr8_wsX40 : GoodIn wsL_law wsX40 := goodIn_r _ [879, 880, 881] (by decide +kernel) (by decide +kernel)
set_option maxRecDepth 20000 in
theorem gr8_wsX30 : GoodIn wsL_law wsX30 := goodIn_r _ [871, 872, 873, 874, 875, 876, 877, 878] (by decide +kernel) (by decide +kernel)
theorem ggL_law_X8_read : GoodIn wsL_law wsX8_read := fun w h => (List.mem_cons.mp h).elim (fun e => gr8_c w (List.mem_singleton.mpr e)) ((goodIn_app (goodIn_app (goodIn_app (goodIn_app (goodIn_app (goodIn_app gr8_r1 (goodIn_app gr8_r2 (goodIn_app gr8_r3 (goodIn_app gr8_r4 (goodIn_app gr8_r5 (goodIn_app gr8_r6 (goodIn_app gr8_r7 (goodIn_app gr8_r8 (goodIn_app gr8_r9 (goodIn_app gr8_r10 (goodIn_app gr8_r11 (goodIn_app gr8_r12 (goodIn_app gr8_r13 (gr8_r14)))))))))))))) gr8_wsX80) gr8_wsX60) gr8_wsX50) gr8_wsX40) gr8_wsX30) w)
set_option maxRecDepth 20000 in
theorem gL_law_X8_read : GoodIn wsL_law (wsV RL 23 RX8 yX8_read wsX8_read) := goodIn_app (goodIn_of _ (by decide +kernel)) ggL_law_X8_read
