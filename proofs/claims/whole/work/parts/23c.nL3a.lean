set_option maxRecDepth 20000 in
theorem gh_wsX4_init : GoodIn wsL_law [.code yX4_init cX4_init 2 none] := goodIn_r _ [10] (by decide +kernel) (by decide +kernel)
set_option maxRecDepth 20000 in
theorem gr_wsX4_init_r1 : GoodIn wsL_law wsX4_init_r1 := goodIn_r _ [11, 12, 13, 14, 15, 16, 17, 18, 19, 20, 21, 22, 23, 24, 25, 26, 27, 28, 29, 30, 31, 32, 33, 34] (by decide +kernel) (by decide +kernel)
set_option maxRecDepth 20000 in
theorem gr_wsX4_init_r2 : GoodIn wsL_law wsX4_init_r2 := goodIn_r _ [35, 36, 37, 38, 39, 40, 41, 42, 43, 44, 45, 46, 47, 48, 49, 50, 51, 52, 53, 54, 55, 56, 57, 58] (by decide +kernel) (by decide +kernel)
set_option maxRecDepth 20000 in
theorem gr_wsX4_init_r3 : GoodIn wsL_law wsX4_init_r3 := goodIn_r _ [59, 60, 2, 61, 62, 63, 64, 65, 66, 67, 68, 69, 70, 71, 72, 73, 74, 75, 76, 77, 78, 79, 80, 81] (by decide +kernel) (by decide +kernel)
set_option maxRecDepth 20000 in
theorem gr_wsX4_init_r4 : GoodIn wsL_law wsX4_init_r4 := goodIn_r _ [82, 83, 84, 85] (by decide +kernel) (by decide +kernel)
set_option maxRecDepth 20000 in
theorem ggL_law_X4_init : GoodIn wsL_law wsX4_init := goodIn_cn gh_wsX4_init (goodIn_app (goodIn_app (goodIn_app (goodIn_app (goodIn_app (goodIn_app gr_wsX4_init_r1 (goodIn_app gr_wsX4_init_r2 (goodIn_app gr_wsX4_init_r3 gr_wsX4_init_r4))) gw_X3) gw_X4) gw_X2) gw_X0) gw_X1)
set_option maxRecDepth 20000 in
theorem gL_law_X4_init : GoodIn wsL_law (wsX4_init) := ggL_law_X4_init
set_option maxRecDepth 20000 in
theorem ggL_law_X5_init : GoodIn wsL_law wsX5_init := goodIn_r _ [88, 89, 12, 13, 39, 90, 91, 92, 93, 94, 95, 28, 96, 97, 98, 99, 5, 100, 932, 933, 934, 935, 936, 937, 938, 939, 940, 941, 942, 943, 944, 945, 946, 947] (by decide +kernel) (by decide +kernel)
set_option maxRecDepth 20000 in
theorem gL_law_X5_init : GoodIn wsL_law (wsX5_init) := ggL_law_X5_init
set_option maxRecDepth 20000 in
theorem ggL_law_L_append : GoodIn wsL_law wsL_append := goodIn_ca (goodIn_ca (goodIn_r _ [104, 105, 106, 107, 108, 109, 2, 110, 111, 112, 113, 114, 17, 115, 116, 117, 16, 118, 119, 120, 121, 122, 123, 34, 124, 926, 927, 928, 929, 930, 931, 948, 949] (by decide +kernel) (by decide +kernel)) (goodIn_sub (fun _ h => List.mem_append_left _ (List.mem_append_left _ (List.mem_append_right _ h))) (by decide +kernel))) (goodIn_sub (fun _ h => List.mem_append_left _ (List.mem_append_right _ h)) (by decide +kernel))
set_option maxRecDepth 20000 in
theorem gL_law_L_append : GoodIn wsL_law (va_wsS RL 94 yL_append wsL_append) := goodIn_app (goodIn_of _ (by decide +kernel)) ggL_law_L_append
set_option maxRecDepth 20000 in
theorem ggL_law_X5_append : GoodIn wsL_law wsX5_append := goodIn_r _ [128, 129, 130, 90, 131, 132, 5, 133, 134, 135, 136, 137, 138, 932, 933, 934, 935, 936, 937, 938, 939, 940, 941, 942, 943, 944, 945, 946, 947] (by decide +kernel) (by decide +kernel)
set_option maxRecDepth 20000 in
theorem gL_law_X5_append : GoodIn wsL_law (wsV RL 99 RX5 yX5_append wsX5_append) := goodIn_app (goodIn_of _ (by decide +kernel)) ggL_law_X5_append
set_option maxRecDepth 20000 in
theorem ggL_law_X5_thrown : GoodIn wsL_law wsX5_thrown := goodIn_r _ [142, 138, 932, 933, 934, 935, 936, 937, 938, 939, 940, 941, 942, 943, 944, 945, 946, 947] (by decide +kernel) (by decide +kernel)
set_option maxRecDepth 20000 in
theorem gL_law_X5_thrown : GoodIn wsL_law (wsV RL 100 RX5 yX5_thrown wsX5_thrown) := goodIn_app (goodIn_of _ (by decide +kernel)) ggL_law_X5_thrown
set_option maxRecDepth 20000 in
theorem ggL_law_X4_clearText : GoodIn wsL_law wsX4_clearText := goodIn_r _ [146, 17, 147, 148, 149, 16, 150, 119, 926, 927, 928, 929, 930, 931, 948, 949] (by decide +kernel) (by decide +kernel)
set_option maxRecDepth 20000 in
theorem gL_law_X4_clearText : GoodIn wsL_law (wsV RL 103 RX4 yX4_clearText wsX4_clearText) := goodIn_app (goodIn_of _ (by decide +kernel)) ggL_law_X4_clearText
set_option maxRecDepth 20000 in
theorem ggL_law_X5_clearText : GoodIn wsL_law wsX5_clearText := goodIn_r _ [154, 138, 130, 932, 933, 934, 935, 936, 937, 938, 939, 940, 941, 942, 943, 944, 945, 946, 947] (by decide +kernel) (by decide +kernel)
set_option maxRecDepth 20000 in
theorem gL_law_X5_clearText : GoodIn wsL_law (wsV RL 106 RX5 yX5_clearText wsX5_clearText) := goodIn_app (goodIn_of _ (by decide +kernel)) ggL_law_X5_clearText
set_option maxRecDepth 20000 in
theorem gh_wsX4_errorPosition : GoodIn wsL_law [.code yX4_errorPosition cX4_errorPosition 1 (some .int)] := goodIn_r _ [158] (by decide +kernel) (by decide +kernel)
set_option maxRecDepth 20000 in
theorem gr_wsX4_errorPosition_r1 : GoodIn wsL_law wsX4_errorPosition_r1 := goodIn_r _ [17, 159, 160, 161, 16, 162, 119, 163, 164, 165, 166, 167, 168, 169, 170, 34, 171, 172, 173, 174, 175, 2, 176, 177] (by decide +kernel) (by decide +kernel)
set_option maxRecDepth 20000 in
theorem gr_wsX4_errorPosition_r2 : GoodIn wsL_law wsX4_errorPosition_r2 := goodIn_r _ [178, 179, 180, 181, 182, 183, 184, 185, 186, 187, 188, 189, 190, 191, 192, 193, 194, 195, 196, 197, 198, 199, 200, 201] (by decide +kernel) (by decide +kernel)
set_option maxRecDepth 20000 in
theorem ggL_law_X4_errorPosition : GoodIn wsL_law wsX4_errorPosition := goodIn_cn gh_wsX4_errorPosition (goodIn_app (goodIn_app (goodIn_app gr_wsX4_errorPosition_r1 gr_wsX4_errorPosition_r2) gw_X4) gw_X3)
set_option maxRecDepth 20000 in
theorem gL_law_X4_errorPosition : GoodIn wsL_law (wsV RL 107 RX4 yX4_errorPosition wsX4_errorPosition) := goodIn_app (goodIn_of _ (by decide +kernel)) ggL_law_X4_errorPosition
set_option maxRecDepth 20000 in
theorem gh_wsX5_errorPosition : GoodIn wsL_law [.code yX5_errorPosition cX5_errorPosition 1 (some .int)] := goodIn_r _ [205] (by decide +kernel) (by decide +kernel)
set_option maxRecDepth 20000 in
theorem gr_wsX5_errorPosition_r1 : GoodIn wsL_law wsX5_errorPosition_r1 := goodIn_r _ [138, 206, 207, 208, 5, 209, 210, 211, 212, 91, 130, 98, 99, 100, 213, 214, 215, 216, 90, 217, 218, 219, 220, 221] (by decide +kernel) (by decide +kernel)
set_option maxRecDepth 20000 in
theorem gr_wsX5_errorPosition_r2 : GoodIn wsL_law wsX5_errorPosition_r2 := goodIn_r _ [222, 223, 224, 225, 226, 227, 228, 229, 230, 231, 131, 132, 133, 232, 233, 234, 235, 236, 237, 238, 239, 240, 241, 242] (by decide +kernel) (by decide +kernel)
set_option maxRecDepth 20000 in
theorem gr_wsX5_errorPosition_r3 : GoodIn wsL_law wsX5_errorPosition_r3 := goodIn_r _ [243, 244, 245, 246, 247, 248, 249, 250, 251, 252, 253, 254, 255, 256, 257, 258, 259, 260, 261, 262, 263, 264, 265, 266] (by decide +kernel) (by decide +kernel)
set_option maxRecDepth 20000 in
theorem gr_wsX5_errorPosition_r4 : GoodIn wsL_law wsX5_errorPosition_r4 := goodIn_r _ [267, 268, 269, 270, 271, 272, 273, 274, 275, 276, 277, 278, 279, 280, 281, 282, 283, 284, 285, 97, 286, 287, 288, 289] (by decide +kernel) (by decide +kernel)
set_option maxRecDepth 20000 in
theorem gr_wsX5_errorPosition_r5 : GoodIn wsL_law wsX5_errorPosition_r5 := goodIn_r _ [290, 291, 292, 293, 294, 295, 296, 297, 298, 299, 300, 301, 302, 303, 304, 305] (by decide +kernel) (by decide +kernel)
set_option maxRecDepth 20000 in
theorem ggL_law_X5_errorPosition : GoodIn wsL_law wsX5_errorPosition := goodIn_cn gh_wsX5_errorPosition (goodIn_app (goodIn_app gr_wsX5_errorPosition_r1 (goodIn_app gr_wsX5_errorPosition_r2 (goodIn_app gr_wsX5_errorPosition_r3 (goodIn_app gr_wsX5_errorPosition_r4 gr_wsX5_errorPosition_r5)))) gw_X5)
set_option maxRecDepth 20000 in
theorem gL_law_X5_errorPosition : GoodIn wsL_law (wsV RL 110 RX5 yX5_errorPosition wsX5_errorPosition) := goodIn_app (goodIn_of _ (by decide +kernel)) ggL_law_X5_errorPosition
set_option maxRecDepth 20000 in
theorem gh_wsL_load : GoodIn wsL_law [.codeWith yL_load cL_load 3 (some .int) [(0, 8, 11, 15)]] := goodIn_r _ [308] (by decide +kernel) (by decide +kernel)
set_option maxRecDepth 20000 in
theorem gr_wsL_load_r1 : GoodIn wsL_law wsL_load_r1 := goodIn_r _ [106, 309, 310, 311, 2, 312, 113, 114, 17, 26, 29, 21, 159, 160, 161, 16, 162, 119, 163, 164, 165, 166, 167, 168] (by decide +kernel) (by decide +kernel)
set_option maxRecDepth 20000 in
theorem gr_wsL_load_r2 : GoodIn wsL_law wsL_load_r2 := goodIn_r _ [169, 170, 34, 171, 172, 173, 174, 175, 176, 177, 178, 179, 180, 181, 182, 183, 184, 185, 186, 187, 188, 189, 190, 191] (by decide +kernel) (by decide +kernel)
set_option maxRecDepth 20000 in
theorem gr_wsL_load_r3 : GoodIn wsL_law wsL_load_r3 := goodIn_r _ [192, 193, 194, 195, 196, 197, 198, 199, 200, 201, 313, 314, 315, 25, 316, 317, 318, 57, 58, 20, 59, 40, 41, 42] (by decide +kernel) (by decide +kernel)
set_option maxRecDepth 20000 in
theorem gr_wsL_load_r4 : GoodIn wsL_law wsL_load_r4 := goodIn_r _ [43, 44, 45, 51, 49, 50, 60, 61, 62, 63, 64, 65, 66, 67, 68, 69, 70, 71, 72, 73, 74, 75, 76, 48] (by decide +kernel) (by decide +kernel)
set_option maxRecDepth 20000 in
theorem gr_wsL_load_r5 : GoodIn wsL_law wsL_load_r5 := goodIn_r _ [77, 78, 319, 320, 321, 322, 323, 324, 325, 326, 327, 328, 329, 330, 331, 332, 333, 334, 335, 336, 337, 338, 339, 340] (by decide +kernel) (by decide +kernel)
set_option maxRecDepth 20000 in
theorem gr_wsL_load_r6 : GoodIn wsL_law wsL_load_r6 := goodIn_r _ [341, 342, 343, 344, 345, 346, 347, 348, 349, 350, 351, 352, 353, 354, 355, 356, 357, 358, 359, 360, 361, 362, 363, 364] (by decide +kernel) (by decide +kernel)
set_option maxRecDepth 20000 in
theorem gr_wsL_load_r7 : GoodIn wsL_law wsL_load_r7 := goodIn_r _ [365, 366, 367, 368, 369, 370, 371, 372, 373, 374, 375, 376, 55, 377, 378, 379, 380, 381, 382, 383, 384, 385, 386, 387] (by decide +kernel) (by decide +kernel)
set_option maxRecDepth 20000 in
theorem gr_wsL_load_r8 : GoodIn wsL_law wsL_load_r8 := goodIn_r _ [388, 389, 390, 391, 392, 393, 394, 395, 396, 397, 398, 399, 400, 401, 402, 403, 404, 405, 406, 407, 408, 409, 410, 411] (by decide +kernel) (by decide +kernel)
set_option maxRecDepth 20000 in
theorem gr_wsL_load_r9 : GoodIn wsL_law wsL_load_r9 := goodIn_r _ [412, 413, 414, 415, 416, 417, 418, 419, 420, 421, 422, 423, 424, 425, 426, 427, 428, 429, 430, 431, 432, 433, 434, 435] (by decide +kernel) (by decide +kernel)
set_option maxRecDepth 20000 in
theorem gr_wsL_load_r10 : GoodIn wsL_law wsL_load_r10 := goodIn_r _ [436, 437, 438, 439, 440, 441, 442, 443, 444, 445, 446, 447, 448, 449, 450, 451, 452] (by decide +kernel) (by decide +kernel)
set_option maxRecDepth 20000 in
theorem ggL_law_L_load : GoodIn wsL_law wsL_load := goodIn_ca (goodIn_cn gh_wsL_load (goodIn_app (goodIn_app (goodIn_app (goodIn_app (goodIn_app (goodIn_app gr_wsL_load_r1 (goodIn_app gr_wsL_load_r2 (goodIn_app gr_wsL_load_r3 (goodIn_app gr_wsL_load_r4 (goodIn_app gr_wsL_load_r5 (goodIn_app gr_wsL_load_r6 (goodIn_app gr_wsL_load_r7 (goodIn_app gr_wsL_load_r8 (goodIn_app gr_wsL_load_r9 gr_wsL_load_r10))))))))) gw_X4) gw_X3) gw_X0) gw_X2) gw_X1)) (goodIn_sub (fun _ h => List.mem_append_left _ (List.mem_append_right _ h)) (by decide +kernel))
set_option maxRecDepth 20000 in
theorem gL_law_L_load : GoodIn wsL_law (va_wsS RL 111 yL_load wsL_load) := goodIn_app (goodIn_of _ (by decide +kernel)) ggL_law_L_load
set_option maxRecDepth 20000 in
theorem gh_wsX5_load : GoodIn wsL_law [.code yX5_load cX5_load 1 (some .int)] := goodIn_r _ [456] (by decide +kernel) (by decide +kernel)
set_option maxRecDepth 20000 in
theorem gr_wsX5_load_r1 : GoodIn wsL_law wsX5_load_r1 := goodIn_r _ [91, 92, 457, 96, 212, 206, 207, 208, 5, 209, 210, 211, 130, 98, 99, 100, 213, 214, 215, 216, 90, 217, 218, 219] (by decide +kernel) (by decide +kernel)
set_option maxRecDepth 20000 in
theorem gr_wsX5_load_r2 : GoodIn wsL_law wsX5_load_r2 := goodIn_r _ [220, 221, 222, 223, 224, 225, 226, 227, 228, 229, 230, 231, 131, 132, 133, 232, 233, 234, 235, 236, 237, 238, 239, 240] (by decide +kernel) (by decide +kernel)
set_option maxRecDepth 20000 in
theorem gr_wsX5_load_r3 : GoodIn wsL_law wsX5_load_r3 := goodIn_r _ [241, 242, 243, 244, 245, 246, 247, 248, 249, 250, 251, 252, 253, 254, 255, 256, 257, 258, 259, 260, 261, 262, 263, 264] (by decide +kernel) (by decide +kernel)
set_option maxRecDepth 20000 in
theorem gr_wsX5_load_r4 : GoodIn wsL_law wsX5_load_r4 := goodIn_r _ [265, 266, 267, 268, 269, 270, 271, 272, 273, 274, 275, 276, 277, 278, 279, 280, 281, 282, 283, 284, 285, 97, 286, 287] (by decide +kernel) (by decide +kernel)
set_option maxRecDepth 20000 in
theorem gr_wsX5_load_r5 : GoodIn wsL_law wsX5_load_r5 := goodIn_r _ [288, 289, 290, 291, 292, 293, 294, 295, 296, 297, 298, 299, 300, 301, 302, 303, 304, 305, 134, 135, 136, 137, 138] (by decide +kernel) (by decide +kernel)
set_option maxRecDepth 20000 in
theorem ggL_law_X5_load : GoodIn wsL_law wsX5_load := goodIn_cn gh_wsX5_load (goodIn_app (goodIn_app gr_wsX5_load_r1 (goodIn_app gr_wsX5_load_r2 (goodIn_app gr_wsX5_load_r3 (goodIn_app gr_wsX5_load_r4 gr_wsX5_load_r5)))) gw_X5)
set_option maxRecDepth 20000 in
theorem gL_law_X5_load : GoodIn wsL_law (wsV RL 114 RX5 yX5_load wsX5_load) := goodIn_app (goodIn_of _ (by decide +kernel)) ggL_law_X5_load
set_option maxRecDepth 20000 in
theorem gh_wsL_about : GoodIn wsL_law [.codeWith yL_about cL_about 4 (some .int) [(0, 9, 12, 13)]] := goodIn_r _ [460] (by decide +kernel) (by decide +kernel)
set_option maxRecDepth 20000 in
theorem gr_wsL_about_r1 : GoodIn wsL_law wsL_about_r1 := goodIn_r _ [105, 461, 462, 463, 2, 464, 111, 112, 21, 465, 466, 467, 20, 468, 49, 51, 357, 358, 359, 48, 360, 78, 469, 470] (by decide +kernel) (by decide +kernel)
set_option maxRecDepth 20000 in
theorem gr_wsL_about_r2 : GoodIn wsL_law wsL_about_r2 := goodIn_r _ [471, 472, 406, 383, 384, 385, 55, 431, 432, 433, 434, 44] (by decide +kernel) (by decide +kernel)
set_option maxRecDepth 20000 in
theorem ggL_law_L_about : GoodIn wsL_law wsL_about := goodIn_ca (goodIn_cn gh_wsL_about (goodIn_app (goodIn_app (goodIn_app (goodIn_app gr_wsL_about_r1 gr_wsL_about_r2) gw_X4) gw_X2) gw_X1)) (goodIn_sub (fun _ h => List.mem_append_left _ (List.mem_append_left _ (List.mem_append_right _ h))) (by decide +kernel))
set_option maxRecDepth 20000 in
theorem gL_law_L_about : GoodIn wsL_law (va_wsS RL 115 yL_about wsL_about) := goodIn_app (goodIn_of _ (by decide +kernel)) ggL_law_L_about
set_option maxRecDepth 20000 in
theorem gh_wsX5_about : GoodIn wsL_law [.code yX5_about cX5_about 2 (some .int)] := goodIn_r _ [476] (by decide +kernel) (by decide +kernel)
set_option maxRecDepth 20000 in
theorem gr_wsX5_about_r1 : GoodIn wsL_law wsX5_about_r1 := goodIn_r _ [477, 92, 131, 132, 5, 133, 134, 135, 136, 137, 138, 478, 479, 480, 481, 289, 290, 291, 258, 259, 260, 300, 301, 302] (by decide +kernel) (by decide +kernel)
set_option maxRecDepth 20000 in
theorem gr_wsX5_about_r2 : GoodIn wsL_law wsX5_about_r2 := goodIn_r _ [243, 244, 245] (by decide +kernel) (by decide +kernel)
set_option maxRecDepth 20000 in
theorem ggL_law_X5_about : GoodIn wsL_law wsX5_about := goodIn_cn gh_wsX5_about (goodIn_app (goodIn_app gr_wsX5_about_r1 gr_wsX5_about_r2) gw_X5)
set_option maxRecDepth 20000 in
theorem gL_law_X5_about : GoodIn wsL_law (wsV RL 117 RX5 yX5_about wsX5_about) := goodIn_app (goodIn_of _ (by decide +kernel)) ggL_law_X5_about
set_option maxRecDepth 20000 in
theorem gh_wsL_order : GoodIn wsL_law [.codeWith yL_order cL_order 5 (some .int) [(0, 10, 13, 28), (0, 10, 17, 13)]] := goodIn_r _ [484] (by decide +kernel) (by decide +kernel)
set_option maxRecDepth 20000 in
theorem gr_wsL_order_r1 : GoodIn wsL_law wsL_order_r1 := goodIn_r _ [485, 105, 486, 487, 488, 2, 489, 490, 491, 111, 112, 21, 492, 493, 395, 396, 48, 397, 78, 494, 495, 496, 497, 383] (by decide +kernel) (by decide +kernel)
set_option maxRecDepth 20000 in
theorem gr_wsL_order_r2 : GoodIn wsL_law wsL_order_r2 := goodIn_r _ [384, 385, 55] (by decide +kernel) (by decide +kernel)
set_option maxRecDepth 20000 in
theorem ggL_law_L_order : GoodIn wsL_law wsL_order := goodIn_ca (goodIn_ca (goodIn_cn gh_wsL_order (goodIn_app (goodIn_app (goodIn_app (goodIn_app gr_wsL_order_r1 gr_wsL_order_r2) gw_X4) gw_X2) gw_X1)) (goodIn_sub (fun _ h => List.mem_append_right _ h) (by decide +kernel))) (goodIn_sub (fun _ h => List.mem_append_left _ (List.mem_append_left _ (List.mem_append_right _ h))) (by decide +kernel))
set_option maxRecDepth 20000 in
theorem gL_law_L_order : GoodIn wsL_law (va_wsS RL 118 yL_order wsL_order) := goodIn_app (goodIn_of _ (by decide +kernel)) ggL_law_L_order
set_option maxRecDepth 20000 in
theorem ggL_law_X5_order : GoodIn wsL_law wsX5_order := goodIn_r _ [501, 502, 92, 503, 504, 505, 5, 506, 131, 132, 133, 134, 135, 136, 137, 138, 258, 259, 260, 932, 933, 934, 935, 936, 937, 938, 939, 940, 941, 942, 943, 944, 945, 946, 947] (by decide +kernel) (by decide +kernel)
set_option maxRecDepth 20000 in
theorem gL_law_X5_order : GoodIn wsL_law (wsV RL 121 RX5 yX5_order wsX5_order) := goodIn_app (goodIn_of _ (by decide +kernel)) ggL_law_X5_order
set_option maxRecDepth 20000 in
theorem gh_wsL_lot : GoodIn wsL_law [.codeWith yL_lot cL_lot 5 (some .int) [(0, 10, 13, 28), (0, 10, 17, 13)]] := goodIn_r _ [509] (by decide +kernel) (by decide +kernel)
set_option maxRecDepth 20000 in
theorem gr_wsL_lot_r1 : GoodIn wsL_law wsL_lot_r1 := goodIn_r _ [485, 105, 510, 511, 512, 2, 513, 490, 491, 111, 112, 21, 514, 515, 516, 343, 344, 517, 420, 421, 20, 422, 49, 357] (by decide +kernel) (by decide +kernel)
set_option maxRecDepth 20000 in
theorem gr_wsL_lot_r2 : GoodIn wsL_law wsL_lot_r2 := goodIn_r _ [358, 359, 48, 360, 78, 406, 383, 384, 385, 55, 518, 424, 425, 426] (by decide +kernel) (by decide +kernel)
set_option maxRecDepth 20000 in
theorem ggL_law_L_lot : GoodIn wsL_law wsL_lot := goodIn_ca (goodIn_ca (goodIn_cn gh_wsL_lot (goodIn_app (goodIn_app (goodIn_app (goodIn_app gr_wsL_lot_r1 gr_wsL_lot_r2) gw_X4) gw_X2) gw_X1)) (goodIn_sub (fun _ h => List.mem_append_right _ h) (by decide +kernel))) (goodIn_sub (fun _ h => List.mem_append_left _ (List.mem_append_left _ (List.mem_append_right _ h))) (by decide +kernel))
set_option maxRecDepth 20000 in
theorem gL_law_L_lot : GoodIn wsL_law (va_wsS RL 122 yL_lot wsL_lot) := goodIn_app (goodIn_of _ (by decide +kernel)) ggL_law_L_lot
set_option maxRecDepth 20000 in
theorem ggL_law_X5_lot : GoodIn wsL_law wsX5_lot := goodIn_r _ [522, 523, 92, 524, 525, 5, 526, 527, 131, 132, 133, 134, 135, 136, 137, 138, 292, 293, 294, 258, 259, 260, 289, 290, 291, 932, 933, 934, 935, 936, 937, 938, 939, 940, 941, 942, 943, 944, 945, 946, 947] (by decide +kernel) (by decide +kernel)
set_option maxRecDepth 20000 in
theorem gL_law_X5_lot : GoodIn wsL_law (wsV RL 124 RX5 yX5_lot wsX5_lot) := goodIn_app (goodIn_of _ (by decide +kernel)) ggL_law_X5_lot
set_option maxRecDepth 20000 in
theorem gh_wsL_reader : GoodIn wsL_law [.codeWith yL_reader cL_reader 5 (some .int) [(0, 10, 13, 28), (0, 10, 17, 13)]] := goodIn_r _ [530] (by decide +kernel) (by decide +kernel)
set_option maxRecDepth 20000 in
theorem gr_wsL_reader_r1 : GoodIn wsL_law wsL_reader_r1 := goodIn_r _ [485, 105, 531, 532, 533, 2, 534, 490, 491, 111, 112, 21, 535, 536, 537, 538, 341, 342, 517, 420, 421, 20, 422, 49] (by decide +kernel) (by decide +kernel)
set_option maxRecDepth 20000 in
theorem gr_wsL_reader_r2 : GoodIn wsL_law wsL_reader_r2 := goodIn_r _ [357, 358, 359, 48, 360, 78, 406, 383, 384, 385, 55] (by decide +kernel) (by decide +kernel)
set_option maxRecDepth 20000 in
theorem ggL_law_L_reader : GoodIn wsL_law wsL_reader := goodIn_ca (goodIn_ca (goodIn_cn gh_wsL_reader (goodIn_app (goodIn_app (goodIn_app (goodIn_app gr_wsL_reader_r1 gr_wsL_reader_r2) gw_X4) gw_X2) gw_X1)) (goodIn_sub (fun _ h => List.mem_append_right _ h) (by decide +kernel))) (goodIn_sub (fun _ h => List.mem_append_left _ (List.mem_append_left _ (List.mem_append_right _ h))) (by decide +kernel))
set_option maxRecDepth 20000 in
theorem gL_law_L_reader : GoodIn wsL_law (va_wsS RL 125 yL_reader wsL_reader) := goodIn_app (goodIn_of _ (by decide +kernel)) ggL_law_L_reader
set_option maxRecDepth 20000 in
theorem ggL_law_X5_reader : GoodIn wsL_law wsX5_reader := goodIn_r _ [542, 523, 92, 543, 544, 5, 545, 131, 132, 133, 134, 135, 136, 137, 138, 546, 547, 548, 549, 258, 259, 260, 932, 933, 934, 935, 936, 937, 938, 939, 940, 941, 942, 943, 944, 945, 946, 947] (by decide +kernel) (by decide +kernel)
set_option maxRecDepth 20000 in
theorem gL_law_X5_reader : GoodIn wsL_law (wsV RL 127 RX5 yX5_reader wsX5_reader) := goodIn_app (goodIn_of _ (by decide +kernel)) ggL_law_X5_reader
set_option maxRecDepth 20000 in
theorem gh_wsL_delivered : GoodIn wsL_law [.codeWith yL_delivered cL_delivered 5 (some .int) [(0, 10, 13, 13)]] := goodIn_r _ [552] (by decide +kernel) (by decide +kernel)
set_option maxRecDepth 20000 in
theorem gr_wsL_delivered_r1 : GoodIn wsL_law wsL_delivered_r1 := goodIn_r _ [105, 553, 554, 555, 2, 556, 111, 112, 21, 557, 494, 495, 496, 558, 358, 359, 48, 360, 78, 559, 560, 561, 497, 383] (by decide +kernel) (by decide +kernel)
set_option maxRecDepth 20000 in
theorem gr_wsL_delivered_r2 : GoodIn wsL_law wsL_delivered_r2 := goodIn_r _ [384, 385, 55] (by decide +kernel) (by decide +kernel)
set_option maxRecDepth 20000 in
theorem ggL_law_L_delivered : GoodIn wsL_law wsL_delivered := goodIn_ca (goodIn_cn gh_wsL_delivered (goodIn_app (goodIn_app (goodIn_app (goodIn_app gr_wsL_delivered_r1 gr_wsL_delivered_r2) gw_X4) gw_X2) gw_X1)) (goodIn_sub (fun _ h => List.mem_append_left _ (List.mem_append_left _ (List.mem_append_right _ h))) (by decide +kernel))
set_option maxRecDepth 20000 in
theorem gL_law_L_delivered : GoodIn wsL_law (va_wsS RL 128 yL_delivered wsL_delivered) := goodIn_app (goodIn_of _ (by decide +kernel)) ggL_law_L_delivered
set_option maxRecDepth 20000 in
theorem ggL_law_X5_delivered : GoodIn wsL_law wsX5_delivered := goodIn_r _ [565, 231, 502, 92, 131, 132, 5, 133, 134, 135, 136, 137, 138, 932, 933, 934, 935, 936, 937, 938, 939, 940, 941, 942, 943, 944, 945, 946, 947] (by decide +kernel) (by decide +kernel)
set_option maxRecDepth 20000 in
theorem gL_law_X5_delivered : GoodIn wsL_law (wsV RL 130 RX5 yX5_delivered wsX5_delivered) := goodIn_app (goodIn_of _ (by decide +kernel)) ggL_law_X5_delivered
set_option maxRecDepth 20000 in
theorem ggL_law_L_setting : GoodIn wsL_law wsL_setting := goodIn_ca (goodIn_r _ [568, 105, 569, 570, 571, 2, 572, 111, 112, 21, 573, 179, 180, 181, 926, 927, 928, 929, 930, 931, 950, 951, 952, 953, 954, 955, 956, 957, 958] (by decide +kernel) (by decide +kernel)) (goodIn_sub (fun _ h => List.mem_append_left _ (List.mem_append_left _ (List.mem_append_right _ h))) (by decide +kernel))
set_option maxRecDepth 20000 in
theorem gL_law_L_setting : GoodIn wsL_law (va_wsS RL 131 yL_setting wsL_setting) := goodIn_app (goodIn_of _ (by decide +kernel)) ggL_law_L_setting
set_option maxRecDepth 20000 in
theorem ggL_law_X5_setting : GoodIn wsL_law wsX5_setting := goodIn_r _ [577, 502, 92, 131, 132, 5, 133, 134, 135, 136, 137, 138, 932, 933, 934, 935, 936, 937, 938, 939, 940, 941, 942, 943, 944, 945, 946, 947] (by decide +kernel) (by decide +kernel)
set_option maxRecDepth 20000 in
theorem gL_law_X5_setting : GoodIn wsL_law (wsV RL 133 RX5 yX5_setting wsX5_setting) := goodIn_app (goodIn_of _ (by decide +kernel)) ggL_law_X5_setting
set_option maxRecDepth 20000 in
theorem gh_wsL_ask : GoodIn wsL_law [.codeWith yL_ask cL_ask 7 (some .int) [(0, 14, 17, 28), (0, 14, 21, 13), (0, 14, 25, 15)]] := goodIn_r _ [580] (by decide +kernel) (by decide +kernel)
set_option maxRecDepth 20000 in
theorem gr_wsL_ask_r1 : GoodIn wsL_law wsL_ask_r1 := goodIn_r _ [485, 105, 106, 581, 582, 583, 2, 584, 490, 491, 111, 112, 113, 114, 21, 26, 538, 341, 342, 516, 343, 344, 585, 345] (by decide +kernel) (by decide +kernel)
set_option maxRecDepth 20000 in
theorem gr_wsL_ask_r2 : GoodIn wsL_law wsL_ask_r2 := goodIn_r _ [346, 586, 347, 348, 587, 350, 351, 20, 352, 49, 41, 353, 354, 355, 356, 44, 357, 358, 359, 48, 360, 78, 588, 589] (by decide +kernel) (by decide +kernel)
set_option maxRecDepth 20000 in
theorem gr_wsL_ask_r3 : GoodIn wsL_law wsL_ask_r3 := goodIn_r _ [590, 25, 591, 84, 592, 317, 593, 63, 64, 65, 594, 595, 596, 597, 40, 42, 43, 45, 51, 50, 60, 61, 62, 66] (by decide +kernel) (by decide +kernel)
set_option maxRecDepth 20000 in
theorem gr_wsL_ask_r4 : GoodIn wsL_law wsL_ask_r4 := goodIn_r _ [67, 68, 69, 598, 599, 600, 601, 55, 602, 362, 363, 364, 365, 366, 367, 368, 369, 370, 371, 372, 373, 374, 375, 376] (by decide +kernel) (by decide +kernel)
set_option maxRecDepth 20000 in
theorem gr_wsL_ask_r5 : GoodIn wsL_law wsL_ask_r5 := goodIn_r _ [377, 378, 379, 380, 381, 382, 383, 384, 385, 386, 387, 388, 389] (by decide +kernel) (by decide +kernel)
set_option maxRecDepth 20000 in
theorem ggL_law_L_ask : GoodIn wsL_law wsL_ask := goodIn_ca (goodIn_ca (goodIn_ca (goodIn_cn gh_wsL_ask (goodIn_app (goodIn_app (goodIn_app (goodIn_app (goodIn_app gr_wsL_ask_r1 (goodIn_app gr_wsL_ask_r2 (goodIn_app gr_wsL_ask_r3 (goodIn_app gr_wsL_ask_r4 gr_wsL_ask_r5)))) gw_X4) gw_X2) gw_X1) gw_X0)) (goodIn_sub (fun _ h => List.mem_append_right _ h) (by decide +kernel))) (goodIn_sub (fun _ h => List.mem_append_left _ (List.mem_append_left _ (List.mem_append_right _ h))) (by decide +kernel))) (goodIn_sub (fun _ h => List.mem_append_left _ (List.mem_append_right _ h)) (by decide +kernel))
set_option maxRecDepth 20000 in
theorem gL_law_L_ask : GoodIn wsL_law (va_wsS RL 134 yL_ask wsL_ask) := goodIn_app (goodIn_of _ (by decide +kernel)) ggL_law_L_ask
set_option maxRecDepth 20000 in
theorem gh_wsX5_ask : GoodIn wsL_law [.code yX5_ask cX5_ask 7 (some .int)] := goodIn_r _ [606] (by decide +kernel) (by decide +kernel)
set_option maxRecDepth 20000 in
theorem gr_wsX5_ask_r1 : GoodIn wsL_law wsX5_ask_r1 := goodIn_r _ [607, 92, 543, 544, 5, 545, 523, 131, 132, 133, 524, 525, 526, 527, 608, 609, 610, 231, 240, 241, 242, 243, 244, 245] (by decide +kernel) (by decide +kernel)
set_option maxRecDepth 20000 in
theorem gr_wsX5_ask_r2 : GoodIn wsL_law wsX5_ask_r2 := goodIn_r _ [134, 135, 136, 137, 138, 611, 612, 613, 614, 457, 94, 274, 275, 276, 246, 247, 248, 249, 250, 251, 252, 253, 254, 255] (by decide +kernel) (by decide +kernel)
set_option maxRecDepth 20000 in
theorem gr_wsX5_ask_r3 : GoodIn wsL_law wsX5_ask_r3 := goodIn_r _ [256, 257, 258, 259, 260] (by decide +kernel) (by decide +kernel)
set_option maxRecDepth 20000 in
theorem ggL_law_X5_ask : GoodIn wsL_law wsX5_ask := goodIn_cn gh_wsX5_ask (goodIn_app (goodIn_app gr_wsX5_ask_r1 (goodIn_app gr_wsX5_ask_r2 gr_wsX5_ask_r3)) gw_X5)
set_option maxRecDepth 20000 in
theorem gL_law_X5_ask : GoodIn wsL_law (wsV RL 137 RX5 yX5_ask wsX5_ask) := goodIn_app (goodIn_of _ (by decide +kernel)) ggL_law_X5_ask
set_option maxRecDepth 20000 in
theorem gh_wsL_cancel : GoodIn wsL_law [.codeWith yL_cancel cL_cancel 4 (some .int) [(0, 9, 12, 28)]] := goodIn_r _ [617] (by decide +kernel) (by decide +kernel)
set_option maxRecDepth 20000 in
theorem gr_wsL_cancel_r1 : GoodIn wsL_law wsL_cancel_r1 := goodIn_r _ [485, 618, 619, 620, 2, 621, 490, 491, 21, 492, 26, 493, 395, 396, 48, 397, 78, 588, 589, 590, 25, 591, 84, 592] (by decide +kernel) (by decide +kernel)
set_option maxRecDepth 20000 in
theorem gr_wsL_cancel_r2 : GoodIn wsL_law wsL_cancel_r2 := goodIn_r _ [317, 593, 63, 64, 65, 594, 595, 596, 20, 597, 40, 41, 42, 43, 44, 45, 51, 49, 50, 60, 61, 62, 66, 67] (by decide +kernel) (by decide +kernel)
set_option maxRecDepth 20000 in
theorem gr_wsL_cancel_r3 : GoodIn wsL_law wsL_cancel_r3 := goodIn_r _ [68, 69, 598, 599, 600, 601, 55, 622, 399, 400, 401, 402, 403, 404, 405, 406, 383, 384, 385, 341, 342, 369, 370, 371] (by decide +kernel) (by decide +kernel)
set_option maxRecDepth 20000 in
theorem gr_wsL_cancel_r4 : GoodIn wsL_law wsL_cancel_r4 := goodIn_r _ [372, 373, 374, 375, 376, 377, 378, 379, 380, 381, 382] (by decide +kernel) (by decide +kernel)
set_option maxRecDepth 20000 in
theorem ggL_law_L_cancel : GoodIn wsL_law wsL_cancel := goodIn_ca (goodIn_cn gh_wsL_cancel (goodIn_app (goodIn_app (goodIn_app (goodIn_app (goodIn_app gr_wsL_cancel_r1 (goodIn_app gr_wsL_cancel_r2 (goodIn_app gr_wsL_cancel_r3 gr_wsL_cancel_r4))) gw_X4) gw_X2) gw_X1) gw_X0)) (goodIn_sub (fun _ h => List.mem_append_right _ h) (by decide +kernel))
set_option maxRecDepth 20000 in
theorem gL_law_L_cancel : GoodIn wsL_law (va_wsS RL 138 yL_cancel wsL_cancel) := goodIn_app (goodIn_of _ (by decide +kernel)) ggL_law_L_cancel
set_option maxRecDepth 20000 in
theorem gh_wsX5_cancel : GoodIn wsL_law [.code yX5_cancel cX5_cancel 2 (some .int)] := goodIn_r _ [626] (by decide +kernel) (by decide +kernel)
set_option maxRecDepth 20000 in
theorem gr_wsX5_cancel_r1 : GoodIn wsL_law wsX5_cancel_r1 := goodIn_r _ [92, 503, 504, 505, 5, 506, 131, 132, 133, 134, 135, 136, 137, 138, 611, 612, 613, 614, 457, 94, 274, 275, 276, 265] (by decide +kernel) (by decide +kernel)
set_option maxRecDepth 20000 in
theorem gr_wsX5_cancel_r2 : GoodIn wsL_law wsX5_cancel_r2 := goodIn_r _ [266, 267, 258, 259, 260, 268, 269, 270, 271, 272, 273] (by decide +kernel) (by decide +kernel)
set_option maxRecDepth 20000 in
theorem ggL_law_X5_cancel : GoodIn wsL_law wsX5_cancel := goodIn_cn gh_wsX5_cancel (goodIn_app (goodIn_app gr_wsX5_cancel_r1 gr_wsX5_cancel_r2) gw_X5)
set_option maxRecDepth 20000 in
theorem gL_law_X5_cancel : GoodIn wsL_law (wsV RL 140 RX5 yX5_cancel wsX5_cancel) := goodIn_app (goodIn_of _ (by decide +kernel)) ggL_law_X5_cancel
set_option maxRecDepth 20000 in
theorem gh_wsL_raise : GoodIn wsL_law [.codeWith yL_raise cL_raise 5 (some .int) [(0, 10, 13, 28), (0, 10, 17, 13), (0, 10, 21, 15)]] := goodIn_r _ [629] (by decide +kernel) (by decide +kernel)
set_option maxRecDepth 20000 in
theorem gr_wsL_raise_r1 : GoodIn wsL_law wsL_raise_r1 := goodIn_r _ [485, 105, 106, 630, 631, 632, 2, 633, 490, 491, 111, 112, 113, 114, 21, 492, 26, 493, 395, 396, 48, 397, 78, 634] (by decide +kernel) (by decide +kernel)
set_option maxRecDepth 20000 in
theorem gr_wsL_raise_r2 : GoodIn wsL_law wsL_raise_r2 := goodIn_r _ [635, 636, 637, 638, 639, 20, 640, 49, 41, 406, 383, 384, 385, 55, 347, 348, 341, 342, 588, 589, 590, 25, 591, 84] (by decide +kernel) (by decide +kernel)
set_option maxRecDepth 20000 in
theorem gr_wsL_raise_r3 : GoodIn wsL_law wsL_raise_r3 := goodIn_r _ [592, 317, 593, 63, 64, 65, 594, 595, 596, 597, 40, 42, 43, 44, 45, 51, 50, 60, 61, 62, 66, 67, 68, 69] (by decide +kernel) (by decide +kernel)
set_option maxRecDepth 20000 in
theorem gr_wsL_raise_r4 : GoodIn wsL_law wsL_raise_r4 := goodIn_r _ [598, 599, 600, 601, 641, 642, 643, 644, 443, 374, 375, 376] (by decide +kernel) (by decide +kernel)
set_option maxRecDepth 20000 in
theorem ggL_law_L_raise : GoodIn wsL_law wsL_raise := goodIn_ca (goodIn_ca (goodIn_ca (goodIn_cn gh_wsL_raise (goodIn_app (goodIn_app (goodIn_app (goodIn_app (goodIn_app gr_wsL_raise_r1 (goodIn_app gr_wsL_raise_r2 (goodIn_app gr_wsL_raise_r3 gr_wsL_raise_r4))) gw_X4) gw_X2) gw_X1) gw_X0)) (goodIn_sub (fun _ h => List.mem_append_right _ h) (by decide +kernel))) (goodIn_sub (fun _ h => List.mem_append_left _ (List.mem_append_left _ (List.mem_append_right _ h))) (by decide +kernel))) (goodIn_sub (fun _ h => List.mem_append_left _ (List.mem_append_right _ h)) (by decide +kernel))
set_option maxRecDepth 20000 in
theorem gL_law_L_raise : GoodIn wsL_law (va_wsS RL 141 yL_raise wsL_raise) := goodIn_app (goodIn_of _ (by decide +kernel)) ggL_law_L_raise
set_option maxRecDepth 20000 in
theorem gh_wsX5_raise : GoodIn wsL_law [.code yX5_raise cX5_raise 3 (some .int)] := goodIn_r _ [648] (by decide +kernel) (by decide +kernel)
set_option maxRecDepth 20000 in
theorem gr_wsX5_raise_r1 : GoodIn wsL_law wsX5_raise_r1 := goodIn_r _ [92, 503, 504, 505, 5, 506, 131, 132, 133, 649, 650, 651, 231, 652, 653, 654, 258, 259, 260, 134, 135, 136, 137, 138] (by decide +kernel) (by decide +kernel)
set_option maxRecDepth 20000 in
theorem gr_wsX5_raise_r2 : GoodIn wsL_law wsX5_raise_r2 := goodIn_r _ [611, 612, 613, 614, 457, 94, 274, 275, 276, 655, 656, 657] (by decide +kernel) (by decide +kernel)
set_option maxRecDepth 20000 in
theorem ggL_law_X5_raise : GoodIn wsL_law wsX5_raise := goodIn_cn gh_wsX5_raise (goodIn_app (goodIn_app gr_wsX5_raise_r1 gr_wsX5_raise_r2) gw_X5)
set_option maxRecDepth 20000 in
theorem gL_law_X5_raise : GoodIn wsL_law (wsV RL 143 RX5 yX5_raise wsX5_raise) := goodIn_app (goodIn_of _ (by decide +kernel)) ggL_law_X5_raise
set_option maxRecDepth 20000 in
theorem gh_wsL_nights : GoodIn wsL_law [.codeWith yL_nights cL_nights 4 (some .int) [(0, 9, 12, 13)]] := goodIn_r _ [660] (by decide +kernel) (by decide +kernel)
set_option maxRecDepth 20000 in
theorem gr_wsL_nights_r1 : GoodIn wsL_law wsL_nights_r1 := goodIn_r _ [105, 661, 662, 663, 2, 664, 111, 112, 26, 21, 665, 666, 667, 588, 589, 590, 25, 591, 84, 592, 317, 593, 63, 64] (by decide +kernel) (by decide +kernel)
set_option maxRecDepth 20000 in
theorem gr_wsL_nights_r2 : GoodIn wsL_law wsL_nights_r2 := goodIn_r _ [65, 594, 595, 596, 20, 597, 40, 41, 42, 43, 44, 45, 51, 49, 50, 60, 61, 62, 66, 67, 68, 69, 598, 599] (by decide +kernel) (by decide +kernel)
set_option maxRecDepth 20000 in
theorem gr_wsL_nights_r3 : GoodIn wsL_law wsL_nights_r3 := goodIn_r _ [600, 48, 601, 55, 78, 465, 466, 467, 468, 357, 358, 359, 360, 469, 470, 471, 472, 406, 383, 384, 385, 431, 432, 433] (by decide +kernel) (by decide +kernel)
set_option maxRecDepth 20000 in
theorem gr_wsL_nights_r4 : GoodIn wsL_law wsL_nights_r4 := goodIn_r _ [434, 407, 408, 409, 410, 411, 412, 413, 414, 415, 416, 417, 418, 419, 420, 421, 422, 423, 424, 425, 426, 343, 344, 427] (by decide +kernel) (by decide +kernel)
set_option maxRecDepth 20000 in
theorem gr_wsL_nights_r5 : GoodIn wsL_law wsL_nights_r5 := goodIn_r _ [428, 429, 430, 435, 436, 437, 438, 365, 366, 367, 368, 341, 342, 369, 370, 371, 372, 373, 374, 375, 376, 377, 378, 379] (by decide +kernel) (by decide +kernel)
set_option maxRecDepth 20000 in
theorem gr_wsL_nights_r6 : GoodIn wsL_law wsL_nights_r6 := goodIn_r _ [380, 381, 382, 386, 387, 388, 389, 439, 440, 441, 442, 443, 444, 445, 446, 447, 402, 403, 404, 405, 448, 449, 450, 451] (by decide +kernel) (by decide +kernel)
set_option maxRecDepth 20000 in
theorem ggL_law_L_nights : GoodIn wsL_law wsL_nights := goodIn_ca (goodIn_cn gh_wsL_nights (goodIn_app (goodIn_app (goodIn_app (goodIn_app (goodIn_app gr_wsL_nights_r1 (goodIn_app gr_wsL_nights_r2 (goodIn_app gr_wsL_nights_r3 (goodIn_app gr_wsL_nights_r4 (goodIn_app gr_wsL_nights_r5 gr_wsL_nights_r6))))) gw_X4) gw_X0) gw_X2) gw_X1)) (goodIn_sub (fun _ h => List.mem_append_left _ (List.mem_append_left _ (List.mem_append_right _ h))) (by decide +kernel))
set_option maxRecDepth 20000 in
theorem gL_law_L_nights : GoodIn wsL_law (va_wsS RL 144 yL_nights wsL_nights) := goodIn_app (goodIn_of _ (by decide +kernel)) ggL_law_L_nights
set_option maxRecDepth 20000 in
theorem gh_wsX5_nights : GoodIn wsL_law [.code yX5_nights cX5_nights 2 (some .int)] := goodIn_r _ [671] (by decide +kernel) (by decide +kernel)
set_option maxRecDepth 20000 in
theorem gr_wsX5_nights_r1 : GoodIn wsL_law wsX5_nights_r1 := goodIn_r _ [92, 672, 673, 5, 674, 675, 131, 132, 133, 134, 135, 136, 137, 138, 611, 612, 613, 614, 457, 94, 274, 275, 276, 277] (by decide +kernel) (by decide +kernel)
set_option maxRecDepth 20000 in
theorem gr_wsX5_nights_r2 : GoodIn wsL_law wsX5_nights_r2 := goodIn_r _ [278, 279, 280, 281, 282, 283, 284, 285, 97, 286, 287, 288, 258, 259, 260, 289, 290, 291, 292, 293, 294, 295, 296, 297] (by decide +kernel) (by decide +kernel)
set_option maxRecDepth 20000 in
theorem gr_wsX5_nights_r3 : GoodIn wsL_law wsX5_nights_r3 := goodIn_r _ [298, 299, 300, 301, 302, 243, 244, 245, 303, 304, 305, 249, 250, 251, 252, 253, 254, 271, 272, 273, 268, 269, 270] (by decide +kernel) (by decide +kernel)
set_option maxRecDepth 20000 in
theorem ggL_law_X5_nights : GoodIn wsL_law wsX5_nights := goodIn_cn gh_wsX5_nights (goodIn_app (goodIn_app gr_wsX5_nights_r1 (goodIn_app gr_wsX5_nights_r2 gr_wsX5_nights_r3)) gw_X5)
set_option maxRecDepth 20000 in
theorem gL_law_X5_nights : GoodIn wsL_law (wsV RL 146 RX5 yX5_nights wsX5_nights) := goodIn_app (goodIn_of _ (by decide +kernel)) ggL_law_X5_nights
set_option maxRecDepth 20000 in
theorem gh_wsL_give : GoodIn wsL_law [.codeWith yL_give cL_give 5 (some .int) [(0, 10, 13, 28), (0, 10, 17, 13)]] := goodIn_r _ [678] (by decide +kernel) (by decide +kernel)
set_option maxRecDepth 20000 in
theorem gr_wsL_give_r1 : GoodIn wsL_law wsL_give_r1 := goodIn_r _ [485, 105, 679, 680, 681, 2, 682, 490, 491, 111, 112, 26, 21, 535, 538, 341, 342, 588, 589, 590, 25, 591, 84, 592] (by decide +kernel) (by decide +kernel)
set_option maxRecDepth 20000 in
theorem gr_wsL_give_r2 : GoodIn wsL_law wsL_give_r2 := goodIn_r _ [317, 593, 63, 64, 65, 594, 595, 596, 20, 597, 40, 41, 42, 43, 44, 45, 51, 49, 50, 60, 61, 62, 66, 67] (by decide +kernel) (by decide +kernel)
set_option maxRecDepth 20000 in
theorem gr_wsL_give_r3 : GoodIn wsL_law wsL_give_r3 := goodIn_r _ [68, 69, 598, 599, 600, 48, 601, 55, 78] (by decide +kernel) (by decide +kernel)
set_option maxRecDepth 20000 in
theorem ggL_law_L_give : GoodIn wsL_law wsL_give := goodIn_ca (goodIn_ca (goodIn_cn gh_wsL_give (goodIn_app (goodIn_app (goodIn_app (goodIn_app (goodIn_app gr_wsL_give_r1 (goodIn_app gr_wsL_give_r2 gr_wsL_give_r3)) gw_X4) gw_X2) gw_X0) gw_X1)) (goodIn_sub (fun _ h => List.mem_append_right _ h) (by decide +kernel))) (goodIn_sub (fun _ h => List.mem_append_left _ (List.mem_append_left _ (List.mem_append_right _ h))) (by decide +kernel))
set_option maxRecDepth 20000 in
theorem gL_law_L_give : GoodIn wsL_law (va_wsS RL 147 yL_give wsL_give) := goodIn_app (goodIn_of _ (by decide +kernel)) ggL_law_L_give
set_option maxRecDepth 20000 in
theorem ggL_law_X5_give : GoodIn wsL_law wsX5_give := goodIn_r _ [686, 687, 92, 543, 544, 5, 545, 523, 131, 132, 133, 134, 135, 136, 137, 138, 611, 612, 613, 614, 457, 94, 274, 275, 276, 932, 933, 934, 935, 936, 937, 938, 939, 940, 941, 942, 943, 944, 945, 946, 947] (by decide +kernel) (by decide +kernel)
set_option maxRecDepth 20000 in
theorem gL_law_X5_give : GoodIn wsL_law (wsV RL 149 RX5 yX5_give wsX5_give) := goodIn_app (goodIn_of _ (by decide +kernel)) ggL_law_X5_give
set_option maxRecDepth 20000 in
theorem gh_wsL_set : GoodIn wsL_law [.codeWith yL_set cL_set 5 (some .int) [(0, 10, 13, 13)]] := goodIn_r _ [690] (by decide +kernel) (by decide +kernel)
set_option maxRecDepth 20000 in
theorem gr_wsL_set_r1 : GoodIn wsL_law wsL_set_r1 := goodIn_r _ [105, 691, 692, 693, 2, 694, 111, 112, 26, 21, 573, 179, 180, 181, 695, 175, 176, 177, 178, 588, 589, 590, 25, 591] (by decide +kernel) (by decide +kernel)
set_option maxRecDepth 20000 in
theorem gr_wsL_set_r2 : GoodIn wsL_law wsL_set_r2 := goodIn_r _ [84, 592, 317, 593, 63, 64, 65, 594, 595, 596, 20, 597, 40, 41, 42, 43, 44, 45, 51, 49, 50, 60, 61, 62] (by decide +kernel) (by decide +kernel)
set_option maxRecDepth 20000 in
theorem gr_wsL_set_r3 : GoodIn wsL_law wsL_set_r3 := goodIn_r _ [66, 67, 68, 69, 598, 599, 600, 48, 601, 55, 78, 320, 321, 322, 323] (by decide +kernel) (by decide +kernel)
set_option maxRecDepth 20000 in
theorem ggL_law_L_set : GoodIn wsL_law wsL_set := goodIn_ca (goodIn_cn gh_wsL_set (goodIn_app (goodIn_app (goodIn_app (goodIn_app (goodIn_app gr_wsL_set_r1 (goodIn_app gr_wsL_set_r2 gr_wsL_set_r3)) gw_X4) gw_X2) gw_X0) gw_X1)) (goodIn_sub (fun _ h => List.mem_append_left _ (List.mem_append_left _ (List.mem_append_right _ h))) (by decide +kernel))
set_option maxRecDepth 20000 in
theorem gL_law_L_set : GoodIn wsL_law (va_wsS RL 150 yL_set wsL_set) := goodIn_app (goodIn_of _ (by decide +kernel)) ggL_law_L_set
set_option maxRecDepth 20000 in
theorem gh_wsX5_set : GoodIn wsL_law [.code yX5_set cX5_set 4 (some .int)] := goodIn_r _ [699] (by decide +kernel) (by decide +kernel)
set_option maxRecDepth 20000 in
theorem gr_wsX5_set_r1 : GoodIn wsL_law wsX5_set_r1 := goodIn_r _ [92, 700, 701, 5, 702, 502, 131, 132, 133, 221, 222, 223, 224, 225, 226, 134, 135, 136, 137, 138, 611, 612, 613, 614] (by decide +kernel) (by decide +kernel)
set_option maxRecDepth 20000 in
theorem gr_wsX5_set_r2 : GoodIn wsL_law wsX5_set_r2 := goodIn_r _ [457, 94, 274, 275, 276] (by decide +kernel) (by decide +kernel)
set_option maxRecDepth 20000 in
theorem ggL_law_X5_set : GoodIn wsL_law wsX5_set := goodIn_cn gh_wsX5_set (goodIn_app (goodIn_app gr_wsX5_set_r1 gr_wsX5_set_r2) gw_X5)
set_option maxRecDepth 20000 in
theorem gL_law_X5_set : GoodIn wsL_law (wsV RL 152 RX5 yX5_set wsX5_set) := goodIn_app (goodIn_of _ (by decide +kernel)) ggL_law_X5_set
set_option maxRecDepth 20000 in
theorem gh_wsL_undo : GoodIn wsL_law [.codeWith yL_undo cL_undo 3 (some .int) [(0, 8, 11, 15)]] := goodIn_r _ [705] (by decide +kernel) (by decide +kernel)
set_option maxRecDepth 20000 in
theorem gr_wsL_undo_r1 : GoodIn wsL_law wsL_undo_r1 := goodIn_r _ [106, 706, 707, 708, 2, 709, 113, 114, 26, 21, 710, 711, 712, 25, 713, 317, 714, 715, 716, 717, 592, 718, 719, 64] (by decide +kernel) (by decide +kernel)
set_option maxRecDepth 20000 in
theorem gr_wsL_undo_r2 : GoodIn wsL_law wsL_undo_r2 := goodIn_r _ [720, 84, 594, 595, 596, 20, 597, 40, 41, 42, 43, 44, 45, 51, 49, 50, 60, 61, 62, 63, 65, 66, 67, 68] (by decide +kernel) (by decide +kernel)
set_option maxRecDepth 20000 in
theorem gr_wsL_undo_r3 : GoodIn wsL_law wsL_undo_r3 := goodIn_r _ [69, 598, 599, 600, 48, 601, 55, 78] (by decide +kernel) (by decide +kernel)
set_option maxRecDepth 20000 in
theorem ggL_law_L_undo : GoodIn wsL_law wsL_undo := goodIn_ca (goodIn_cn gh_wsL_undo (goodIn_app (goodIn_app (goodIn_app (goodIn_app (goodIn_app gr_wsL_undo_r1 (goodIn_app gr_wsL_undo_r2 gr_wsL_undo_r3)) gw_X4) gw_X0) gw_X2) gw_X1)) (goodIn_sub (fun _ h => List.mem_append_left _ (List.mem_append_right _ h)) (by decide +kernel))
set_option maxRecDepth 20000 in
theorem gL_law_L_undo : GoodIn wsL_law (va_wsS RL 153 yL_undo wsL_undo) := goodIn_app (goodIn_of _ (by decide +kernel)) ggL_law_L_undo
set_option maxRecDepth 20000 in
theorem ggL_law_X5_undo : GoodIn wsL_law wsX5_undo := goodIn_r _ [724, 457, 94, 92, 134, 135, 136, 5, 137, 138, 274, 275, 276, 932, 933, 934, 935, 936, 937, 938, 939, 940, 941, 942, 943, 944, 945, 946, 947] (by decide +kernel) (by decide +kernel)
set_option maxRecDepth 20000 in
theorem gL_law_X5_undo : GoodIn wsL_law (wsV RL 155 RX5 yX5_undo wsX5_undo) := goodIn_app (goodIn_of _ (by decide +kernel)) ggL_law_X5_undo
set_option maxRecDepth 20000 in
theorem gh_wsL_arrives : GoodIn wsL_law [.codeWith yL_arrives cL_arrives 4 (some .int) [(0, 9, 12, 28)]] := goodIn_r _ [727] (by decide +kernel) (by decide +kernel)
set_option maxRecDepth 20000 in
theorem gr_wsL_arrives_r1 : GoodIn wsL_law wsL_arrives_r1 := goodIn_r _ [485, 728, 729, 730, 2, 731, 490, 491, 21, 492, 573, 732, 719, 64, 720, 22, 493, 395, 396, 48, 397, 78, 497, 383] (by decide +kernel) (by decide +kernel)
set_option maxRecDepth 20000 in
theorem gr_wsL_arrives_r2 : GoodIn wsL_law wsL_arrives_r2 := goodIn_r _ [384, 385, 55, 733, 595, 596, 20, 597, 40, 41, 42, 43, 44, 45, 51, 49, 50, 60, 61, 62, 63, 65, 66, 67] (by decide +kernel) (by decide +kernel)
set_option maxRecDepth 20000 in
theorem gr_wsL_arrives_r3 : GoodIn wsL_law wsL_arrives_r3 := goodIn_r _ [68, 69, 598, 599, 600, 601, 407, 408, 409, 410, 411, 412, 413, 414, 415, 416, 417, 418, 406, 419, 420, 421, 422, 357] (by decide +kernel) (by decide +kernel)
set_option maxRecDepth 20000 in
theorem gr_wsL_arrives_r4 : GoodIn wsL_law wsL_arrives_r4 := goodIn_r _ [358, 359, 360, 423, 424, 425, 426, 343, 344, 427, 428, 429, 430, 431, 432, 433, 434, 435, 436, 437, 438, 365, 366, 367] (by decide +kernel) (by decide +kernel)
set_option maxRecDepth 20000 in
theorem gr_wsL_arrives_r5 : GoodIn wsL_law wsL_arrives_r5 := goodIn_r _ [368, 341, 342, 369, 370, 371, 372, 373, 374, 375, 376, 377, 378, 379, 380, 381, 382, 386, 387, 388, 389, 439, 440, 441] (by decide +kernel) (by decide +kernel)
set_option maxRecDepth 20000 in
theorem gr_wsL_arrives_r6 : GoodIn wsL_law wsL_arrives_r6 := goodIn_r _ [442, 443, 444, 445, 446, 447, 402, 403, 404, 405, 448, 449, 450, 451, 734, 735, 736, 737] (by decide +kernel) (by decide +kernel)
set_option maxRecDepth 20000 in
theorem ggL_law_L_arrives : GoodIn wsL_law wsL_arrives := goodIn_ca (goodIn_cn gh_wsL_arrives (goodIn_app (goodIn_app (goodIn_app (goodIn_app gr_wsL_arrives_r1 (goodIn_app gr_wsL_arrives_r2 (goodIn_app gr_wsL_arrives_r3 (goodIn_app gr_wsL_arrives_r4 (goodIn_app gr_wsL_arrives_r5 gr_wsL_arrives_r6))))) gw_X4) gw_X2) gw_X1)) (goodIn_sub (fun _ h => List.mem_append_right _ h) (by decide +kernel))
set_option maxRecDepth 20000 in
theorem gL_law_L_arrives : GoodIn wsL_law (va_wsS RL 156 yL_arrives wsL_arrives) := goodIn_app (goodIn_of _ (by decide +kernel)) ggL_law_L_arrives
set_option maxRecDepth 20000 in
theorem gh_wsX5_arrives : GoodIn wsL_law [.code yX5_arrives cX5_arrives 3 (some .int)] := goodIn_r _ [741] (by decide +kernel) (by decide +kernel)
set_option maxRecDepth 20000 in
theorem gr_wsX5_arrives_r1 : GoodIn wsL_law wsX5_arrives_r1 := goodIn_r _ [93, 299, 503, 504, 505, 5, 506, 92, 131, 132, 133, 134, 135, 136, 137, 138, 742, 743, 744, 745, 274, 275, 276, 258] (by decide +kernel) (by decide +kernel)
set_option maxRecDepth 20000 in
theorem gr_wsX5_arrives_r2 : GoodIn wsL_law wsX5_arrives_r2 := goodIn_r _ [259, 260, 746, 747, 748, 749, 281, 282, 283, 284, 285, 97, 286, 287, 288, 289, 290, 291, 292, 293, 294, 295, 296, 297] (by decide +kernel) (by decide +kernel)
set_option maxRecDepth 20000 in
theorem gr_wsX5_arrives_r3 : GoodIn wsL_law wsX5_arrives_r3 := goodIn_r _ [298, 300, 301, 302, 243, 244, 245, 303, 304, 305, 249, 250, 251, 252, 253, 254, 271, 272, 273, 268, 269, 270] (by decide +kernel) (by decide +kernel)
set_option maxRecDepth 20000 in
theorem ggL_law_X5_arrives : GoodIn wsL_law wsX5_arrives := goodIn_cn gh_wsX5_arrives (goodIn_app (goodIn_app gr_wsX5_arrives_r1 (goodIn_app gr_wsX5_arrives_r2 gr_wsX5_arrives_r3)) gw_X5)
set_option maxRecDepth 20000 in
theorem gL_law_X5_arrives : GoodIn wsL_law (wsV RL 158 RX5 yX5_arrives wsX5_arrives) := goodIn_app (goodIn_of _ (by decide +kernel)) ggL_law_X5_arrives
set_option maxRecDepth 20000 in
theorem gh_wsL_next : GoodIn wsL_law [.codeWith yL_next cL_next 4 (some .int) [(0, 9, 12, 13)]] := goodIn_r _ [752] (by decide +kernel) (by decide +kernel)
set_option maxRecDepth 20000 in
theorem gr_wsL_next_r1 : GoodIn wsL_law wsL_next_r1 := goodIn_r _ [105, 753, 754, 755, 2, 756, 111, 112, 22, 21, 573, 733, 595, 596, 20, 597, 40, 41, 42, 43, 44, 45, 51, 49] (by decide +kernel) (by decide +kernel)
set_option maxRecDepth 20000 in
theorem gr_wsL_next_r2 : GoodIn wsL_law wsL_next_r2 := goodIn_r _ [50, 60, 61, 62, 63, 64, 65, 66, 67, 68, 69, 598, 599, 600, 48, 601, 55, 78, 757, 416, 417, 418, 406, 383] (by decide +kernel) (by decide +kernel)
set_option maxRecDepth 20000 in
theorem gr_wsL_next_r3 : GoodIn wsL_law wsL_next_r3 := goodIn_r _ [384, 385, 419, 420, 421, 422, 357, 358, 359, 360, 423, 424, 425, 426, 516, 343, 344, 758, 428, 429, 430, 431, 432, 433] (by decide +kernel) (by decide +kernel)
set_option maxRecDepth 20000 in
theorem gr_wsL_next_r4 : GoodIn wsL_law wsL_next_r4 := goodIn_r _ [434, 435, 436, 437, 438, 365, 366, 367, 368, 341, 342, 369, 370, 371, 372, 373, 374, 375, 376, 377, 378, 379, 380, 381] (by decide +kernel) (by decide +kernel)
set_option maxRecDepth 20000 in
theorem gr_wsL_next_r5 : GoodIn wsL_law wsL_next_r5 := goodIn_r _ [382, 386, 387, 388, 389] (by decide +kernel) (by decide +kernel)
set_option maxRecDepth 20000 in
theorem ggL_law_L_next : GoodIn wsL_law wsL_next := goodIn_ca (goodIn_cn gh_wsL_next (goodIn_app (goodIn_app (goodIn_app (goodIn_app gr_wsL_next_r1 (goodIn_app gr_wsL_next_r2 (goodIn_app gr_wsL_next_r3 (goodIn_app gr_wsL_next_r4 gr_wsL_next_r5)))) gw_X4) gw_X2) gw_X1)) (goodIn_sub (fun _ h => List.mem_append_left _ (List.mem_append_left _ (List.mem_append_right _ h))) (by decide +kernel))
set_option maxRecDepth 20000 in
theorem gL_law_L_next : GoodIn wsL_law (va_wsS RL 159 yL_next wsL_next) := goodIn_app (goodIn_of _ (by decide +kernel)) ggL_law_L_next
set_option maxRecDepth 20000 in
theorem gh_wsX5_next : GoodIn wsL_law [.code yX5_next cX5_next 2 (some .int)] := goodIn_r _ [762] (by decide +kernel) (by decide +kernel)
set_option maxRecDepth 20000 in
theorem gr_wsX5_next_r1 : GoodIn wsL_law wsX5_next_r1 := goodIn_r _ [93, 285, 97, 134, 135, 136, 5, 137, 138, 742, 743, 744, 745, 92, 274, 275, 276, 281, 282, 283, 284, 286, 287, 288] (by decide +kernel) (by decide +kernel)
set_option maxRecDepth 20000 in
theorem gr_wsX5_next_r2 : GoodIn wsL_law wsX5_next_r2 := goodIn_r _ [258, 259, 260, 289, 290, 291, 292, 293, 294, 295, 296, 297, 298, 299, 300, 301, 302, 243, 244, 245, 303, 304, 305, 249] (by decide +kernel) (by decide +kernel)
set_option maxRecDepth 20000 in
theorem gr_wsX5_next_r3 : GoodIn wsL_law wsX5_next_r3 := goodIn_r _ [250, 251, 252, 253, 254, 271, 272, 273, 268, 269, 270] (by decide +kernel) (by decide +kernel)
set_option maxRecDepth 20000 in
theorem ggL_law_X5_next : GoodIn wsL_law wsX5_next := goodIn_cn gh_wsX5_next (goodIn_app (goodIn_app gr_wsX5_next_r1 (goodIn_app gr_wsX5_next_r2 gr_wsX5_next_r3)) gw_X5)
set_option maxRecDepth 20000 in
theorem gL_law_X5_next : GoodIn wsL_law (wsV RL 161 RX5 yX5_next wsX5_next) := goodIn_app (goodIn_of _ (by decide +kernel)) ggL_law_X5_next
set_option maxRecDepth 20000 in
theorem gh_wsL_feeFor : GoodIn wsL_law [.codeWith yL_feeFor cL_feeFor 4 (some .int) [(0, 9, 12, 28)]] := goodIn_r _ [765] (by decide +kernel) (by decide +kernel)
set_option maxRecDepth 20000 in
theorem gr_wsL_feeFor_r1 : GoodIn wsL_law wsL_feeFor_r1 := goodIn_r _ [485, 766, 767, 768, 2, 769, 490, 491, 21, 22, 492, 516, 343, 344, 770, 354, 355, 20, 356, 44, 733, 595, 596, 597] (by decide +kernel) (by decide +kernel)
set_option maxRecDepth 20000 in
theorem gr_wsL_feeFor_r2 : GoodIn wsL_law wsL_feeFor_r2 := goodIn_r _ [40, 41, 42, 43, 45, 51, 49, 50, 60, 61, 62, 63, 64, 65, 66, 67, 68, 69, 598, 599, 600, 48, 601, 55] (by decide +kernel) (by decide +kernel)
set_option maxRecDepth 20000 in
theorem gr_wsL_feeFor_r3 : GoodIn wsL_law wsL_feeFor_r3 := goodIn_r _ [78, 771, 387, 388, 389, 407, 408, 409, 410, 411, 412, 413, 414, 415, 416, 417, 418, 406, 383, 384, 385, 419, 420, 421] (by decide +kernel) (by decide +kernel)
set_option maxRecDepth 20000 in
theorem gr_wsL_feeFor_r4 : GoodIn wsL_law wsL_feeFor_r4 := goodIn_r _ [422, 357, 358, 359, 360, 423, 424, 425, 426, 427, 428, 429, 430, 431, 432, 433, 434, 435, 436, 437, 438, 365, 366, 367] (by decide +kernel) (by decide +kernel)
set_option maxRecDepth 20000 in
theorem gr_wsL_feeFor_r5 : GoodIn wsL_law wsL_feeFor_r5 := goodIn_r _ [368, 341, 342, 369, 370, 371, 372, 373, 374, 375, 376, 377, 378, 379, 380, 381, 382, 386, 439, 440, 441, 442, 443, 444] (by decide +kernel) (by decide +kernel)
set_option maxRecDepth 20000 in
theorem gr_wsL_feeFor_r6 : GoodIn wsL_law wsL_feeFor_r6 := goodIn_r _ [445, 446, 447, 402, 403, 404, 405, 448, 449, 450, 451, 734, 735, 736, 737] (by decide +kernel) (by decide +kernel)
set_option maxRecDepth 20000 in
theorem ggL_law_L_feeFor : GoodIn wsL_law wsL_feeFor := goodIn_ca (goodIn_cn gh_wsL_feeFor (goodIn_app (goodIn_app (goodIn_app (goodIn_app gr_wsL_feeFor_r1 (goodIn_app gr_wsL_feeFor_r2 (goodIn_app gr_wsL_feeFor_r3 (goodIn_app gr_wsL_feeFor_r4 (goodIn_app gr_wsL_feeFor_r5 gr_wsL_feeFor_r6))))) gw_X4) gw_X2) gw_X1)) (goodIn_sub (fun _ h => List.mem_append_right _ h) (by decide +kernel))
set_option maxRecDepth 20000 in
theorem gL_law_L_feeFor : GoodIn wsL_law (va_wsS RL 162 yL_feeFor wsL_feeFor) := goodIn_app (goodIn_of _ (by decide +kernel)) ggL_law_L_feeFor
set_option maxRecDepth 20000 in
theorem gh_wsX5_feeFor : GoodIn wsL_law [.code yX5_feeFor cX5_feeFor 3 (some .int)] := goodIn_r _ [775] (by decide +kernel) (by decide +kernel)
set_option maxRecDepth 20000 in
theorem gr_wsX5_feeFor_r1 : GoodIn wsL_law wsX5_feeFor_r1 := goodIn_r _ [93, 299, 524, 525, 5, 526, 527, 131, 132, 133, 134, 135, 136, 137, 138, 742, 743, 744, 745, 92, 274, 275, 276, 243] (by decide +kernel) (by decide +kernel)
set_option maxRecDepth 20000 in
theorem gr_wsX5_feeFor_r2 : GoodIn wsL_law wsX5_feeFor_r2 := goodIn_r _ [244, 245, 255, 256, 257, 258, 259, 260, 281, 282, 283, 284, 285, 97, 286, 287, 288, 289, 290, 291, 292, 293, 294, 295] (by decide +kernel) (by decide +kernel)
set_option maxRecDepth 20000 in
theorem gr_wsX5_feeFor_r3 : GoodIn wsL_law wsX5_feeFor_r3 := goodIn_r _ [296, 297, 298, 300, 301, 302, 303, 304, 305, 249, 250, 251, 252, 253, 254, 271, 272, 273, 268, 269, 270] (by decide +kernel) (by decide +kernel)
set_option maxRecDepth 20000 in
theorem ggL_law_X5_feeFor : GoodIn wsL_law wsX5_feeFor := goodIn_cn gh_wsX5_feeFor (goodIn_app (goodIn_app gr_wsX5_feeFor_r1 (goodIn_app gr_wsX5_feeFor_r2 gr_wsX5_feeFor_r3)) gw_X5)
set_option maxRecDepth 20000 in
theorem gL_law_X5_feeFor : GoodIn wsL_law (wsV RL 164 RX5 yX5_feeFor wsX5_feeFor) := goodIn_app (goodIn_of _ (by decide +kernel)) ggL_law_X5_feeFor
set_option maxRecDepth 20000 in
theorem gh_wsL_would : GoodIn wsL_law [.codeWith yL_would cL_would 5 (some .int) [(0, 10, 13, 13)]] := goodIn_r _ [778] (by decide +kernel) (by decide +kernel)
set_option maxRecDepth 20000 in
theorem gr_wsL_would_r1 : GoodIn wsL_law wsL_would_r1 := goodIn_r _ [105, 779, 780, 781, 2, 782, 111, 112, 22, 21, 783, 784, 785, 733, 595, 596, 20, 597, 40, 41, 42, 43, 44, 45] (by decide +kernel) (by decide +kernel)
set_option maxRecDepth 20000 in
theorem gr_wsL_would_r2 : GoodIn wsL_law wsL_would_r2 := goodIn_r _ [51, 49, 50, 60, 61, 62, 63, 64, 65, 66, 67, 68, 69, 598, 599, 600, 48, 601, 55, 78, 407, 408, 409, 410] (by decide +kernel) (by decide +kernel)
set_option maxRecDepth 20000 in
theorem gr_wsL_would_r3 : GoodIn wsL_law wsL_would_r3 := goodIn_r _ [411, 412, 413, 414, 415, 416, 417, 418, 406, 383, 384, 385, 419, 420, 421, 422, 357, 358, 359, 360, 423, 424, 425, 426] (by decide +kernel) (by decide +kernel)
set_option maxRecDepth 20000 in
theorem gr_wsL_would_r4 : GoodIn wsL_law wsL_would_r4 := goodIn_r _ [343, 344, 427, 428, 429, 430, 431, 432, 433, 434, 435, 436, 437, 438, 365, 366, 367, 368, 341, 342, 369, 370, 371, 372] (by decide +kernel) (by decide +kernel)
set_option maxRecDepth 20000 in
theorem gr_wsL_would_r5 : GoodIn wsL_law wsL_would_r5 := goodIn_r _ [373, 374, 375, 376, 377, 378, 379, 380, 381, 382, 386, 387, 388, 389, 439, 440, 441, 442, 443, 444, 445, 446, 447, 402] (by decide +kernel) (by decide +kernel)
set_option maxRecDepth 20000 in
theorem gr_wsL_would_r6 : GoodIn wsL_law wsL_would_r6 := goodIn_r _ [403, 404, 405, 448, 449, 450, 451, 786, 787, 788, 789, 465, 466, 467, 468, 469, 470, 471, 472] (by decide +kernel) (by decide +kernel)
set_option maxRecDepth 20000 in
theorem ggL_law_L_would : GoodIn wsL_law wsL_would := goodIn_ca (goodIn_cn gh_wsL_would (goodIn_app (goodIn_app (goodIn_app (goodIn_app gr_wsL_would_r1 (goodIn_app gr_wsL_would_r2 (goodIn_app gr_wsL_would_r3 (goodIn_app gr_wsL_would_r4 (goodIn_app gr_wsL_would_r5 gr_wsL_would_r6))))) gw_X4) gw_X2) gw_X1)) (goodIn_sub (fun _ h => List.mem_append_left _ (List.mem_append_left _ (List.mem_append_right _ h))) (by decide +kernel))
set_option maxRecDepth 20000 in
theorem gL_law_L_would : GoodIn wsL_law (va_wsS RL 165 yL_would wsL_would) := goodIn_app (goodIn_of _ (by decide +kernel)) ggL_law_L_would
set_option maxRecDepth 20000 in
theorem gh_wsX5_would : GoodIn wsL_law [.code yX5_would cX5_would 4 (some .int)] := goodIn_r _ [793] (by decide +kernel) (by decide +kernel)
set_option maxRecDepth 20000 in
theorem gr_wsX5_would_r1 : GoodIn wsL_law wsX5_would_r1 := goodIn_r _ [794, 523, 93, 92, 131, 132, 5, 133, 134, 135, 136, 137, 138, 742, 743, 744, 745, 274, 275, 276, 277, 278, 279, 280] (by decide +kernel) (by decide +kernel)
set_option maxRecDepth 20000 in
theorem gr_wsX5_would_r2 : GoodIn wsL_law wsX5_would_r2 := goodIn_r _ [281, 282, 283, 284, 285, 97, 286, 287, 288, 258, 259, 260, 289, 290, 291, 292, 293, 294, 295, 296, 297, 298, 299, 300] (by decide +kernel) (by decide +kernel)
set_option maxRecDepth 20000 in
theorem gr_wsX5_would_r3 : GoodIn wsL_law wsX5_would_r3 := goodIn_r _ [301, 302, 243, 244, 245, 303, 304, 305, 249, 250, 251, 252, 253, 254, 271, 272, 273, 268, 269, 270] (by decide +kernel) (by decide +kernel)
set_option maxRecDepth 20000 in
theorem ggL_law_X5_would : GoodIn wsL_law wsX5_would := goodIn_cn gh_wsX5_would (goodIn_app (goodIn_app gr_wsX5_would_r1 (goodIn_app gr_wsX5_would_r2 gr_wsX5_would_r3)) gw_X5)
set_option maxRecDepth 20000 in
theorem gL_law_X5_would : GoodIn wsL_law (wsV RL 167 RX5 yX5_would wsX5_would) := goodIn_app (goodIn_of _ (by decide +kernel)) ggL_law_X5_would
set_option maxRecDepth 20000 in
theorem gh_wsX4_bestRule : GoodIn wsL_law [.code yX4_bestRule cX4_bestRule 7 (some .int)] := goodIn_r _ [798] (by decide +kernel) (by decide +kernel)
set_option maxRecDepth 20000 in
theorem gr_wsX4_bestRule_r1 : GoodIn wsL_law wsX4_bestRule_r1 := goodIn_r _ [799, 800, 801, 2, 802, 22, 21, 733, 595, 596, 20, 597, 40, 41, 42, 43, 44, 45, 51, 49, 50, 60, 61, 62] (by decide +kernel) (by decide +kernel)
set_option maxRecDepth 20000 in
theorem gr_wsX4_bestRule_r2 : GoodIn wsL_law wsX4_bestRule_r2 := goodIn_r _ [63, 64, 65, 66, 67, 68, 69, 598, 599, 600, 48, 601, 55, 78, 320, 321, 322, 323, 180, 181, 407, 408, 409, 410] (by decide +kernel) (by decide +kernel)
set_option maxRecDepth 20000 in
theorem gr_wsX4_bestRule_r3 : GoodIn wsL_law wsX4_bestRule_r3 := goodIn_r _ [411, 412, 413, 414, 415, 416, 417, 418, 406, 383, 384, 385, 419, 420, 421, 422, 357, 358, 359, 360, 423, 424, 425, 426] (by decide +kernel) (by decide +kernel)
set_option maxRecDepth 20000 in
theorem gr_wsX4_bestRule_r4 : GoodIn wsL_law wsX4_bestRule_r4 := goodIn_r _ [343, 344, 427, 428, 429, 430, 431, 432, 433, 434, 435, 436, 437, 438, 365, 366, 367, 368, 341, 342, 369, 370, 371, 372] (by decide +kernel) (by decide +kernel)
set_option maxRecDepth 20000 in
theorem gr_wsX4_bestRule_r5 : GoodIn wsL_law wsX4_bestRule_r5 := goodIn_r _ [373, 374, 375, 376, 377, 378, 379, 380, 381, 382, 386, 387, 388, 389, 439, 440, 441, 442, 443, 444, 445, 446, 447, 402] (by decide +kernel) (by decide +kernel)
set_option maxRecDepth 20000 in
theorem gr_wsX4_bestRule_r6 : GoodIn wsL_law wsX4_bestRule_r6 := goodIn_r _ [403, 404, 405, 448, 449, 450, 451, 786, 787, 788, 789, 465, 466, 467, 468, 469, 470, 471, 472] (by decide +kernel) (by decide +kernel)
set_option maxRecDepth 20000 in
theorem ggL_law_X4_bestRule : GoodIn wsL_law wsX4_bestRule := goodIn_cn gh_wsX4_bestRule (goodIn_app (goodIn_app (goodIn_app (goodIn_app gr_wsX4_bestRule_r1 (goodIn_app gr_wsX4_bestRule_r2 (goodIn_app gr_wsX4_bestRule_r3 (goodIn_app gr_wsX4_bestRule_r4 (goodIn_app gr_wsX4_bestRule_r5 gr_wsX4_bestRule_r6))))) gw_X4) gw_X2) gw_X1)
set_option maxRecDepth 20000 in
theorem gL_law_X4_bestRule : GoodIn wsL_law (wsV RL 168 RX4 yX4_bestRule wsX4_bestRule) := goodIn_app (goodIn_of _ (by decide +kernel)) ggL_law_X4_bestRule
set_option maxRecDepth 20000 in
theorem gh_wsX5_bestRule : GoodIn wsL_law [.code yX5_bestRule cX5_bestRule 6 (some .int)] := goodIn_r _ [806] (by decide +kernel) (by decide +kernel)
set_option maxRecDepth 20000 in
theorem gr_wsX5_bestRule_r1 : GoodIn wsL_law wsX5_bestRule_r1 := goodIn_r _ [138, 93, 742, 743, 744, 5, 745, 92, 274, 275, 276, 807, 808, 809, 810, 281, 282, 283, 284, 285, 97, 286, 287, 288] (by decide +kernel) (by decide +kernel)
set_option maxRecDepth 20000 in
theorem gr_wsX5_bestRule_r2 : GoodIn wsL_law wsX5_bestRule_r2 := goodIn_r _ [258, 259, 260, 289, 290, 291, 292, 293, 294, 295, 296, 297, 298, 299, 300, 301, 302, 243, 244, 245, 303, 304, 305, 249] (by decide +kernel) (by decide +kernel)
set_option maxRecDepth 20000 in
theorem gr_wsX5_bestRule_r3 : GoodIn wsL_law wsX5_bestRule_r3 := goodIn_r _ [250, 251, 252, 253, 254, 271, 272, 273, 268, 269, 270] (by decide +kernel) (by decide +kernel)
set_option maxRecDepth 20000 in
theorem ggL_law_X5_bestRule : GoodIn wsL_law wsX5_bestRule := goodIn_cn gh_wsX5_bestRule (goodIn_app (goodIn_app gr_wsX5_bestRule_r1 (goodIn_app gr_wsX5_bestRule_r2 gr_wsX5_bestRule_r3)) gw_X5)
set_option maxRecDepth 20000 in
theorem gL_law_X5_bestRule : GoodIn wsL_law (wsV RL 171 RX5 yX5_bestRule wsX5_bestRule) := goodIn_app (goodIn_of _ (by decide +kernel)) ggL_law_X5_bestRule
set_option maxRecDepth 20000 in
theorem gh_wsX4_leastRoom : GoodIn wsL_law [.code yX4_leastRoom cX4_leastRoom 2 (some .int)] := goodIn_r _ [814] (by decide +kernel) (by decide +kernel)
set_option maxRecDepth 20000 in
theorem gr_wsX4_leastRoom_r1 : GoodIn wsL_law wsX4_leastRoom_r1 := goodIn_r _ [799, 800, 801, 2, 802, 22, 21, 733, 595, 596, 20, 597, 40, 41, 42, 43, 44, 45, 51, 49, 50, 60, 61, 62] (by decide +kernel) (by decide +kernel)
set_option maxRecDepth 20000 in
theorem gr_wsX4_leastRoom_r2 : GoodIn wsL_law wsX4_leastRoom_r2 := goodIn_r _ [63, 64, 65, 66, 67, 68, 69, 598, 599, 600, 48, 601, 55, 78, 320, 321, 322, 323, 180, 181, 407, 408, 409, 410] (by decide +kernel) (by decide +kernel)
set_option maxRecDepth 20000 in
theorem gr_wsX4_leastRoom_r3 : GoodIn wsL_law wsX4_leastRoom_r3 := goodIn_r _ [411, 412, 413, 414, 415, 416, 417, 418, 406, 383, 384, 385, 419, 420, 421, 422, 357, 358, 359, 360, 423, 424, 425, 426] (by decide +kernel) (by decide +kernel)
set_option maxRecDepth 20000 in
theorem gr_wsX4_leastRoom_r4 : GoodIn wsL_law wsX4_leastRoom_r4 := goodIn_r _ [343, 344, 427, 428, 429, 430, 431, 432, 433, 434, 435, 436, 437, 438, 365, 366, 367, 368, 341, 342, 369, 370, 371, 372] (by decide +kernel) (by decide +kernel)
set_option maxRecDepth 20000 in
theorem gr_wsX4_leastRoom_r5 : GoodIn wsL_law wsX4_leastRoom_r5 := goodIn_r _ [373, 374, 375, 376, 377, 378, 379, 380, 381, 382, 386, 387, 388, 389, 439, 440, 441, 442, 443, 444, 445, 446, 447, 402] (by decide +kernel) (by decide +kernel)
set_option maxRecDepth 20000 in
theorem gr_wsX4_leastRoom_r6 : GoodIn wsL_law wsX4_leastRoom_r6 := goodIn_r _ [403, 404, 405, 448, 449, 450, 451, 786, 787, 788, 789, 465, 466, 467, 468, 469, 470, 471, 472] (by decide +kernel) (by decide +kernel)
set_option maxRecDepth 20000 in
theorem ggL_law_X4_leastRoom : GoodIn wsL_law wsX4_leastRoom := goodIn_cn gh_wsX4_leastRoom (goodIn_app (goodIn_app (goodIn_app (goodIn_app gr_wsX4_leastRoom_r1 (goodIn_app gr_wsX4_leastRoom_r2 (goodIn_app gr_wsX4_leastRoom_r3 (goodIn_app gr_wsX4_leastRoom_r4 (goodIn_app gr_wsX4_leastRoom_r5 gr_wsX4_leastRoom_r6))))) gw_X4) gw_X2) gw_X1)
