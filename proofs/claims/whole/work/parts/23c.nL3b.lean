set_option maxRecDepth 20000 in
theorem gL_law_X4_leastRoom : GoodIn wsL_law (wsV RL 172 RX4 yX4_leastRoom wsX4_leastRoom) := goodIn_app (goodIn_of _ (by decide +kernel)) ggL_law_X4_leastRoom
set_option maxRecDepth 20000 in
theorem gh_wsX5_leastRoom : GoodIn wsL_law [.code yX5_leastRoom cX5_leastRoom 2 (some .int)] := goodIn_r _ [818] (by decide +kernel) (by decide +kernel)
set_option maxRecDepth 20000 in
theorem gr_wsX5_leastRoom_r1 : GoodIn wsL_law wsX5_leastRoom_r1 := goodIn_r _ [138, 93, 92, 742, 743, 744, 5, 745, 274, 275, 276, 807, 808, 809, 810, 281, 282, 283, 284, 285, 97, 286, 287, 288] (by decide +kernel) (by decide +kernel)
set_option maxRecDepth 20000 in
theorem gr_wsX5_leastRoom_r2 : GoodIn wsL_law wsX5_leastRoom_r2 := goodIn_r _ [258, 259, 260, 289, 290, 291, 292, 293, 294, 295, 296, 297, 298, 299, 300, 301, 302, 243, 244, 245, 303, 304, 305, 249] (by decide +kernel) (by decide +kernel)
set_option maxRecDepth 20000 in
theorem gr_wsX5_leastRoom_r3 : GoodIn wsL_law wsX5_leastRoom_r3 := goodIn_r _ [250, 251, 252, 253, 254, 271, 272, 273, 268, 269, 270] (by decide +kernel) (by decide +kernel)
set_option maxRecDepth 20000 in
theorem ggL_law_X5_leastRoom : GoodIn wsL_law wsX5_leastRoom := goodIn_cn gh_wsX5_leastRoom (goodIn_app (goodIn_app gr_wsX5_leastRoom_r1 (goodIn_app gr_wsX5_leastRoom_r2 gr_wsX5_leastRoom_r3)) gw_X5)
set_option maxRecDepth 20000 in
theorem gL_law_X5_leastRoom : GoodIn wsL_law (wsV RL 175 RX5 yX5_leastRoom wsX5_leastRoom) := goodIn_app (goodIn_of _ (by decide +kernel)) ggL_law_X5_leastRoom
set_option maxRecDepth 20000 in
theorem gh_wsL_runScript : GoodIn wsL_law [.codeWith yL_runScript cL_runScript 6 (some .int) [(0, 11, 14, 13)]] := goodIn_r _ [821] (by decide +kernel) (by decide +kernel)
set_option maxRecDepth 20000 in
theorem gr_wsL_runScript_r1 : GoodIn wsL_law wsL_runScript_r1 := goodIn_r _ [105, 822, 823, 824, 2, 825, 111, 112, 22, 21, 826, 827, 828, 829, 733, 595, 596, 20, 597, 40, 41, 42, 43, 44] (by decide +kernel) (by decide +kernel)
set_option maxRecDepth 20000 in
theorem gr_wsL_runScript_r2 : GoodIn wsL_law wsL_runScript_r2 := goodIn_r _ [45, 51, 49, 50, 60, 61, 62, 63, 64, 65, 66, 67, 68, 69, 598, 599, 600, 48, 601, 55, 78, 830, 831, 832] (by decide +kernel) (by decide +kernel)
set_option maxRecDepth 20000 in
theorem gr_wsL_runScript_r3 : GoodIn wsL_law wsL_runScript_r3 := goodIn_r _ [833, 536, 337, 338, 339, 340, 341, 342, 343, 344, 345, 346, 347, 348, 349, 350, 351, 352, 353, 354, 355, 356, 357, 358] (by decide +kernel) (by decide +kernel)
set_option maxRecDepth 20000 in
theorem gr_wsL_runScript_r4 : GoodIn wsL_law wsL_runScript_r4 := goodIn_r _ [359, 360, 361, 362, 363, 364, 365, 366, 367, 368, 369, 370, 371, 372, 373, 374, 375, 376, 377, 378, 379, 380, 381, 382] (by decide +kernel) (by decide +kernel)
set_option maxRecDepth 20000 in
theorem gr_wsL_runScript_r5 : GoodIn wsL_law wsL_runScript_r5 := goodIn_r _ [383, 384, 385, 386, 387, 388, 389, 390, 391, 392, 393, 394, 395, 396, 397, 398, 399, 400, 401, 402, 403, 404, 405, 406] (by decide +kernel) (by decide +kernel)
set_option maxRecDepth 20000 in
theorem gr_wsL_runScript_r6 : GoodIn wsL_law wsL_runScript_r6 := goodIn_r _ [834, 835, 836, 837, 635, 636, 838, 638, 639, 640, 839, 642, 643, 644, 443, 665, 666, 667, 407, 408, 409, 410, 411, 412] (by decide +kernel) (by decide +kernel)
set_option maxRecDepth 20000 in
theorem gr_wsL_runScript_r7 : GoodIn wsL_law wsL_runScript_r7 := goodIn_r _ [413, 414, 415, 416, 417, 418, 419, 420, 421, 422, 423, 424, 425, 426, 427, 428, 429, 430, 431, 432, 433, 434, 435, 436] (by decide +kernel) (by decide +kernel)
set_option maxRecDepth 20000 in
theorem gr_wsL_runScript_r8 : GoodIn wsL_law wsL_runScript_r8 := goodIn_r _ [437, 438, 439, 440, 441, 442, 444, 445, 446, 447, 448, 449, 450, 451, 840, 841, 842, 843, 175, 176, 177, 178, 179, 180] (by decide +kernel) (by decide +kernel)
set_option maxRecDepth 20000 in
theorem gr_wsL_runScript_r9 : GoodIn wsL_law wsL_runScript_r9 := goodIn_r _ [181, 844, 321, 322, 323, 516, 770, 538, 465, 466, 467, 468, 469, 470, 471, 472] (by decide +kernel) (by decide +kernel)
set_option maxRecDepth 20000 in
theorem ggL_law_L_runScript : GoodIn wsL_law wsL_runScript := goodIn_ca (goodIn_cn gh_wsL_runScript (goodIn_app (goodIn_app (goodIn_app (goodIn_app gr_wsL_runScript_r1 (goodIn_app gr_wsL_runScript_r2 (goodIn_app gr_wsL_runScript_r3 (goodIn_app gr_wsL_runScript_r4 (goodIn_app gr_wsL_runScript_r5 (goodIn_app gr_wsL_runScript_r6 (goodIn_app gr_wsL_runScript_r7 (goodIn_app gr_wsL_runScript_r8 gr_wsL_runScript_r9)))))))) gw_X4) gw_X2) gw_X1)) (goodIn_sub (fun _ h => List.mem_append_left _ (List.mem_append_left _ (List.mem_append_right _ h))) (by decide +kernel))
set_option maxRecDepth 20000 in
theorem gL_law_L_runScript : GoodIn wsL_law (va_wsS RL 178 yL_runScript wsL_runScript) := goodIn_app (goodIn_of _ (by decide +kernel)) ggL_law_L_runScript
set_option maxRecDepth 20000 in
theorem gh_wsX5_runScript : GoodIn wsL_law [.code yX5_runScript cX5_runScript 6 (some .int)] := goodIn_r _ [848] (by decide +kernel) (by decide +kernel)
set_option maxRecDepth 20000 in
theorem gr_wsX5_runScript_r1 : GoodIn wsL_law wsX5_runScript_r1 := goodIn_r _ [523, 849, 131, 132, 5, 133, 850, 851, 852, 477, 134, 135, 136, 137, 138, 742, 743, 744, 745, 92, 93, 274, 275, 276] (by decide +kernel) (by decide +kernel)
set_option maxRecDepth 20000 in
theorem gr_wsX5_runScript_r2 : GoodIn wsL_law wsX5_runScript_r2 := goodIn_r _ [853, 854, 855, 856, 857, 858, 859, 860, 240, 241, 242, 243, 244, 245, 246, 247, 248, 249, 250, 251, 252, 253, 254, 255] (by decide +kernel) (by decide +kernel)
set_option maxRecDepth 20000 in
theorem gr_wsX5_runScript_r3 : GoodIn wsL_law wsX5_runScript_r3 := goodIn_r _ [256, 257, 258, 259, 260, 861, 862, 863, 864, 265, 266, 267, 268, 269, 270, 271, 272, 273, 865, 866, 867, 868, 649, 650] (by decide +kernel) (by decide +kernel)
set_option maxRecDepth 20000 in
theorem gr_wsX5_runScript_r4 : GoodIn wsL_law wsX5_runScript_r4 := goodIn_r _ [651, 231, 652, 653, 654, 655, 656, 657, 869, 870, 871, 872, 672, 673, 674, 675, 277, 278, 279, 280, 281, 282, 283, 284] (by decide +kernel) (by decide +kernel)
set_option maxRecDepth 20000 in
theorem gr_wsX5_runScript_r5 : GoodIn wsL_law wsX5_runScript_r5 := goodIn_r _ [285, 97, 286, 287, 288, 289, 290, 291, 292, 293, 294, 295, 296, 297, 298, 299, 300, 301, 302, 303, 304, 305, 873, 874] (by decide +kernel) (by decide +kernel)
set_option maxRecDepth 20000 in
theorem gr_wsX5_runScript_r6 : GoodIn wsL_law wsX5_runScript_r6 := goodIn_r _ [875, 876, 700, 701, 702, 502, 221, 222, 223, 224, 225, 226] (by decide +kernel) (by decide +kernel)
set_option maxRecDepth 20000 in
theorem ggL_law_X5_runScript : GoodIn wsL_law wsX5_runScript := goodIn_cn gh_wsX5_runScript (goodIn_app (goodIn_app gr_wsX5_runScript_r1 (goodIn_app gr_wsX5_runScript_r2 (goodIn_app gr_wsX5_runScript_r3 (goodIn_app gr_wsX5_runScript_r4 (goodIn_app gr_wsX5_runScript_r5 gr_wsX5_runScript_r6))))) gw_X5)
set_option maxRecDepth 20000 in
theorem gL_law_X5_runScript : GoodIn wsL_law (wsV RL 181 RX5 yX5_runScript wsX5_runScript) := goodIn_app (goodIn_of _ (by decide +kernel)) ggL_law_X5_runScript
set_option maxRecDepth 20000 in
theorem gh_wsL_simulate : GoodIn wsL_law [.codeWith yL_simulate cL_simulate 6 (some .int) [(0, 11, 14, 13)]] := goodIn_r _ [879] (by decide +kernel) (by decide +kernel)
set_option maxRecDepth 20000 in
theorem gr_wsL_simulate_r1 : GoodIn wsL_law wsL_simulate_r1 := goodIn_r _ [105, 880, 881, 882, 2, 883, 111, 112, 22, 21, 884, 885, 733, 595, 596, 20, 597, 40, 41, 42, 43, 44, 45, 51] (by decide +kernel) (by decide +kernel)
set_option maxRecDepth 20000 in
theorem gr_wsL_simulate_r2 : GoodIn wsL_law wsL_simulate_r2 := goodIn_r _ [49, 50, 60, 61, 62, 63, 64, 65, 66, 67, 68, 69, 598, 599, 600, 48, 601, 55, 78, 886, 887, 888, 889, 890] (by decide +kernel) (by decide +kernel)
set_option maxRecDepth 20000 in
theorem gr_wsL_simulate_r3 : GoodIn wsL_law wsL_simulate_r3 := goodIn_r _ [891, 337, 338, 339, 340, 341, 342, 343, 344, 345, 346, 347, 348, 349, 350, 351, 352, 353, 354, 355, 356, 357, 358, 359] (by decide +kernel) (by decide +kernel)
set_option maxRecDepth 20000 in
theorem gr_wsL_simulate_r4 : GoodIn wsL_law wsL_simulate_r4 := goodIn_r _ [360, 361, 362, 363, 364, 365, 366, 367, 368, 369, 370, 371, 372, 373, 374, 375, 376, 377, 378, 379, 380, 381, 382, 383] (by decide +kernel) (by decide +kernel)
set_option maxRecDepth 20000 in
theorem gr_wsL_simulate_r5 : GoodIn wsL_law wsL_simulate_r5 := goodIn_r _ [384, 385, 386, 387, 388, 389, 390, 391, 392, 393, 394, 395, 396, 397, 398, 399, 400, 401, 402, 403, 404, 405, 406, 407] (by decide +kernel) (by decide +kernel)
set_option maxRecDepth 20000 in
theorem gr_wsL_simulate_r6 : GoodIn wsL_law wsL_simulate_r6 := goodIn_r _ [408, 409, 410, 411, 412, 413, 414, 415, 416, 417, 418, 419, 420, 421, 422, 423, 424, 425, 426, 427, 428, 429, 430, 431] (by decide +kernel) (by decide +kernel)
set_option maxRecDepth 20000 in
theorem gr_wsL_simulate_r7 : GoodIn wsL_law wsL_simulate_r7 := goodIn_r _ [432, 433, 434, 435, 436, 437, 438, 439, 440, 441, 442, 443, 444, 445, 446, 447, 448, 449, 450, 451, 786, 787, 788, 789] (by decide +kernel) (by decide +kernel)
set_option maxRecDepth 20000 in
theorem gr_wsL_simulate_r8 : GoodIn wsL_law wsL_simulate_r8 := goodIn_r _ [465, 466, 467, 468, 469, 470, 471, 472] (by decide +kernel) (by decide +kernel)
set_option maxRecDepth 20000 in
theorem ggL_law_L_simulate : GoodIn wsL_law wsL_simulate := goodIn_ca (goodIn_cn gh_wsL_simulate (goodIn_app (goodIn_app (goodIn_app (goodIn_app gr_wsL_simulate_r1 (goodIn_app gr_wsL_simulate_r2 (goodIn_app gr_wsL_simulate_r3 (goodIn_app gr_wsL_simulate_r4 (goodIn_app gr_wsL_simulate_r5 (goodIn_app gr_wsL_simulate_r6 (goodIn_app gr_wsL_simulate_r7 gr_wsL_simulate_r8))))))) gw_X4) gw_X2) gw_X1)) (goodIn_sub (fun _ h => List.mem_append_left _ (List.mem_append_left _ (List.mem_append_right _ h))) (by decide +kernel))
set_option maxRecDepth 20000 in
theorem gL_law_L_simulate : GoodIn wsL_law (va_wsS RL 182 yL_simulate wsL_simulate) := goodIn_app (goodIn_of _ (by decide +kernel)) ggL_law_L_simulate
set_option maxRecDepth 20000 in
theorem gh_wsX5_simulate : GoodIn wsL_law [.code yX5_simulate cX5_simulate 8 (some .int)] := goodIn_r _ [895] (by decide +kernel) (by decide +kernel)
set_option maxRecDepth 20000 in
theorem gr_wsX5_simulate_r1 : GoodIn wsL_law wsX5_simulate_r1 := goodIn_r _ [896, 897, 898, 899, 900, 93, 92, 131, 132, 5, 133, 134, 135, 136, 137, 138, 742, 743, 744, 745, 274, 275, 276, 857] (by decide +kernel) (by decide +kernel)
set_option maxRecDepth 20000 in
theorem gr_wsX5_simulate_r2 : GoodIn wsL_law wsX5_simulate_r2 := goodIn_r _ [858, 859, 860, 240, 241, 242, 243, 244, 245, 246, 247, 248, 249, 250, 251, 252, 253, 254, 255, 256, 257, 258, 259, 260] (by decide +kernel) (by decide +kernel)
set_option maxRecDepth 20000 in
theorem gr_wsX5_simulate_r3 : GoodIn wsL_law wsX5_simulate_r3 := goodIn_r _ [861, 862, 863, 864, 265, 266, 267, 268, 269, 270, 271, 272, 273, 281, 282, 283, 284, 285, 97, 286, 287, 288, 289, 290] (by decide +kernel) (by decide +kernel)
set_option maxRecDepth 20000 in
theorem gr_wsX5_simulate_r4 : GoodIn wsL_law wsX5_simulate_r4 := goodIn_r _ [291, 292, 293, 294, 295, 296, 297, 298, 299, 300, 301, 302, 303, 304, 305] (by decide +kernel) (by decide +kernel)
set_option maxRecDepth 20000 in
theorem ggL_law_X5_simulate : GoodIn wsL_law wsX5_simulate := goodIn_cn gh_wsX5_simulate (goodIn_app (goodIn_app gr_wsX5_simulate_r1 (goodIn_app gr_wsX5_simulate_r2 (goodIn_app gr_wsX5_simulate_r3 gr_wsX5_simulate_r4))) gw_X5)
set_option maxRecDepth 20000 in
theorem gL_law_X5_simulate : GoodIn wsL_law (wsV RL 185 RX5 yX5_simulate wsX5_simulate) := goodIn_app (goodIn_of _ (by decide +kernel)) ggL_law_X5_simulate
set_option maxRecDepth 20000 in
theorem gh_wsL_save : GoodIn wsL_law [.codeWith yL_save cL_save 4 (some .int) [(0, 9, 12, 28)]] := goodIn_r _ [903] (by decide +kernel) (by decide +kernel)
set_option maxRecDepth 20000 in
theorem gr_wsL_save_r1 : GoodIn wsL_law wsL_save_r1 := goodIn_r _ [485, 904, 905, 906, 2, 907, 490, 491, 27, 21, 29, 908, 909, 910, 733, 595, 596, 20, 597, 40, 41, 42, 43, 44] (by decide +kernel) (by decide +kernel)
set_option maxRecDepth 20000 in
theorem gr_wsL_save_r2 : GoodIn wsL_law wsL_save_r2 := goodIn_r _ [45, 51, 49, 50, 60, 61, 62, 63, 64, 65, 66, 67, 68, 69, 598, 599, 600, 48, 601, 55, 78, 465, 466, 467] (by decide +kernel) (by decide +kernel)
set_option maxRecDepth 20000 in
theorem gr_wsL_save_r3 : GoodIn wsL_law wsL_save_r3 := goodIn_r _ [468, 357, 358, 359, 360, 469, 470, 471, 472, 406, 383, 384, 385, 431, 432, 433, 434] (by decide +kernel) (by decide +kernel)
set_option maxRecDepth 20000 in
theorem ggL_law_L_save : GoodIn wsL_law wsL_save := goodIn_ca (goodIn_cn gh_wsL_save (goodIn_app (goodIn_app (goodIn_app (goodIn_app gr_wsL_save_r1 (goodIn_app gr_wsL_save_r2 gr_wsL_save_r3)) gw_X4) gw_X2) gw_X1)) (goodIn_sub (fun _ h => List.mem_append_right _ h) (by decide +kernel))
set_option maxRecDepth 20000 in
theorem gL_law_L_save : GoodIn wsL_law (va_wsS RL 186 yL_save wsL_save) := goodIn_app (goodIn_of _ (by decide +kernel)) ggL_law_L_save
set_option maxRecDepth 20000 in
theorem ggL_law_X5_save : GoodIn wsL_law wsX5_save := goodIn_r _ [914, 92, 95, 96, 131, 132, 5, 133, 134, 135, 136, 137, 138, 274, 275, 276, 932, 933, 934, 935, 936, 937, 938, 939, 940, 941, 942, 943, 944, 945, 946, 947] (by decide +kernel) (by decide +kernel)
set_option maxRecDepth 20000 in
theorem gL_law_X5_save : GoodIn wsL_law (wsV RL 188 RX5 yX5_save wsX5_save) := goodIn_app (goodIn_of _ (by decide +kernel)) ggL_law_X5_save
set_option maxRecDepth 20000 in
theorem gh_wsL_restore : GoodIn wsL_law [.codeWith yL_restore cL_restore 4 (some .int) [(0, 9, 12, 28), (0, 9, 15, 15)]] := goodIn_r _ [917] (by decide +kernel) (by decide +kernel)
set_option maxRecDepth 20000 in
theorem gr_wsL_restore_r1 : GoodIn wsL_law wsL_restore_r1 := goodIn_r _ [485, 106, 918, 919, 920, 2, 921, 490, 491, 113, 114, 29, 21, 27, 26, 908, 909, 910, 733, 595, 596, 20, 597, 40] (by decide +kernel) (by decide +kernel)
set_option maxRecDepth 20000 in
theorem gr_wsL_restore_r2 : GoodIn wsL_law wsL_restore_r2 := goodIn_r _ [41, 42, 43, 44, 45, 51, 49, 50, 60, 61, 62, 63, 64, 65, 66, 67, 68, 69, 598, 599, 600, 48, 601, 55] (by decide +kernel) (by decide +kernel)
set_option maxRecDepth 20000 in
theorem gr_wsL_restore_r3 : GoodIn wsL_law wsL_restore_r3 := goodIn_r _ [78, 313, 314, 315, 25, 316, 317, 465, 466, 467, 468, 357, 358, 359, 360, 469, 470, 471, 472, 406, 383, 384, 385, 431] (by decide +kernel) (by decide +kernel)
set_option maxRecDepth 20000 in
theorem gr_wsL_restore_r4 : GoodIn wsL_law wsL_restore_r4 := goodIn_r _ [432, 433, 434] (by decide +kernel) (by decide +kernel)
set_option maxRecDepth 20000 in
theorem ggL_law_L_restore : GoodIn wsL_law wsL_restore := goodIn_ca (goodIn_ca (goodIn_cn gh_wsL_restore (goodIn_app (goodIn_app (goodIn_app (goodIn_app (goodIn_app gr_wsL_restore_r1 (goodIn_app gr_wsL_restore_r2 (goodIn_app gr_wsL_restore_r3 gr_wsL_restore_r4))) gw_X4) gw_X2) gw_X1) gw_X0)) (goodIn_sub (fun _ h => List.mem_append_right _ h) (by decide +kernel))) (goodIn_sub (fun _ h => List.mem_append_left _ (List.mem_append_right _ h)) (by decide +kernel))
set_option maxRecDepth 20000 in
theorem gL_law_L_restore : GoodIn wsL_law (va_wsS RL 189 yL_restore wsL_restore) := goodIn_app (goodIn_of _ (by decide +kernel)) ggL_law_L_restore
set_option maxRecDepth 20000 in
theorem ggL_law_X5_restore : GoodIn wsL_law wsX5_restore := goodIn_r _ [925, 96, 95, 92, 457, 131, 132, 5, 133, 134, 135, 136, 137, 138, 274, 275, 276, 932, 933, 934, 935, 936, 937, 938, 939, 940, 941, 942, 943, 944, 945, 946, 947] (by decide +kernel) (by decide +kernel)
set_option maxRecDepth 20000 in
theorem gL_law_X5_restore : GoodIn wsL_law (wsV RL 191 RX5 yX5_restore wsX5_restore) := goodIn_app (goodIn_of _ (by decide +kernel)) ggL_law_X5_restore
