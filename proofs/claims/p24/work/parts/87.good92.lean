/-! ===== the words of a step among the law's ===== -/
set_option maxRecDepth 20000 in
theorem gq_areAlike_r7 : GoodIn wsL_law wsL_areAlike_r7 := goodIn_r _ [270, 271, 272, 273, 274, 275, 276, 277, 278, 279, 280, 232, 233, 234, 235, 236, 240, 241, 242, 243, 98, 99, 100, 101] (by decide +kernel) (by decide +kernel)
set_option maxRecDepth 20000 in
theorem gq_areAlike_r8 : GoodIn wsL_law wsL_areAlike_r8 := goodIn_r _ [103, 104, 105, 410, 411, 412, 413, 414, 415, 208, 209, 61, 62, 54, 63, 64, 154, 155, 156, 157, 159, 160, 161, 162] (by decide +kernel) (by decide +kernel)
set_option maxRecDepth 20000 in
theorem gq_areAlike_r9 : GoodIn wsL_law wsL_areAlike_r9 := goodIn_r _ [163, 164, 165, 166, 203, 204, 205, 206, 207, 210, 211, 212, 213, 214] (by decide +kernel) (by decide +kernel)
set_option maxRecDepth 20000 in
theorem gq_areAlike_X40 : GoodIn wsL_law wsX40 := goodIn_r _ [429, 430, 431, 432, 433, 434] (by decide +kernel) (by decide +kernel)
set_option maxRecDepth 20000 in
theorem gq_areAlike_X20 : GoodIn wsL_law wsX20 := goodIn_r _ [435, 436, 437, 438, 439, 440, 441, 442, 443, 444, 445, 446, 447] (by decide +kernel) (by decide +kernel)
set_option maxRecDepth 20000 in
theorem gq_areAlike_X30 : GoodIn wsL_law wsX30 := goodIn_r _ [457, 458] (by decide +kernel) (by decide +kernel)
set_option maxRecDepth 20000 in
theorem gq_areAlike_X10 : GoodIn wsL_law wsX10 := goodIn_r _ [448, 449, 450] (by decide +kernel) (by decide +kernel)
theorem ggL_law_L_areAlike : GoodIn wsL_law wsL_areAlike := goodIn_cons gq_areAlike_c (goodIn_app (goodIn_app (goodIn_app (goodIn_app (goodIn_app gq_areAlike_r1 (goodIn_app gq_areAlike_r2 (goodIn_app gq_areAlike_r3 (goodIn_app gq_areAlike_r4 (goodIn_app gq_areAlike_r5 (goodIn_app gq_areAlike_r6 (goodIn_app gq_areAlike_r7 (goodIn_app gq_areAlike_r8 (gq_areAlike_r9))))))))) gq_areAlike_X40) gq_areAlike_X20) gq_areAlike_X30) gq_areAlike_X10)
theorem gL_law_L_areAlike : GoodIn wsL_law (va_wsS RL 119 yL_areAlike wsL_areAlike) := goodIn_app (goodIn_of _ (by decide +kernel)) ggL_law_L_areAlike
