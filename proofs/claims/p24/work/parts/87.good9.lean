/-! ===== the words of a step among the law's ===== -/
set_option maxRecDepth 20000 in
theorem gq_isStep_r11 : GoodIn wsL_law wsL_isStep_r11 := goodIn_r _ [277, 278, 279, 280, 281, 282, 283, 284, 285, 286, 287, 288, 289, 290, 291, 292, 293, 294, 295, 296, 297, 298, 299, 300] (by decide +kernel) (by decide +kernel)
set_option maxRecDepth 20000 in
theorem gq_isStep_r12 : GoodIn wsL_law wsL_isStep_r12 := goodIn_r _ [301, 18, 9, 302, 303, 304, 305, 306, 307, 308, 309, 310, 311, 312, 313, 314, 315, 316, 317, 318, 319, 320, 321, 322] (by decide +kernel) (by decide +kernel)
set_option maxRecDepth 20000 in
theorem gq_isStep_r13 : GoodIn wsL_law wsL_isStep_r13 := goodIn_r _ [323, 324, 325, 326, 327, 45, 328, 329, 330, 331, 332, 333, 334, 335, 336, 337, 338, 339, 340, 341, 51, 342, 343, 344] (by decide +kernel) (by decide +kernel)
set_option maxRecDepth 20000 in
theorem gq_isStep_r14 : GoodIn wsL_law wsL_isStep_r14 := goodIn_r _ [345, 346, 347, 348, 349, 22, 350, 351, 352, 353, 354, 21, 355, 356, 46, 357, 358, 359, 360, 361, 362, 363, 364, 365] (by decide +kernel) (by decide +kernel)
set_option maxRecDepth 20000 in
theorem gq_isStep_r15 : GoodIn wsL_law wsL_isStep_r15 := goodIn_r _ [366, 367, 368, 369, 370, 371, 372, 373, 374, 375, 376, 377, 378, 379, 380, 381, 382, 383, 384, 385, 386, 387, 388, 389] (by decide +kernel) (by decide +kernel)
set_option maxRecDepth 20000 in
theorem gq_isStep_r16 : GoodIn wsL_law wsL_isStep_r16 := goodIn_r _ [390, 391, 392, 393, 394, 395, 396, 397, 398, 399, 400, 401, 402, 403, 404, 405] (by decide +kernel) (by decide +kernel)
set_option maxRecDepth 20000 in
theorem gq_isStep_X40 : GoodIn wsL_law wsX40 := goodIn_r _ [429, 430, 431, 432, 433, 434] (by decide +kernel) (by decide +kernel)
set_option maxRecDepth 20000 in
theorem gq_isStep_X20 : GoodIn wsL_law wsX20 := goodIn_r _ [435, 436, 437, 438, 439, 440, 441, 442, 443, 444, 445, 446, 447] (by decide +kernel) (by decide +kernel)
set_option maxRecDepth 20000 in
theorem gq_isStep_X30 : GoodIn wsL_law wsX30 := goodIn_r _ [457, 458] (by decide +kernel) (by decide +kernel)
set_option maxRecDepth 20000 in
theorem gq_isStep_X10 : GoodIn wsL_law wsX10 := goodIn_r _ [448, 449, 450] (by decide +kernel) (by decide +kernel)
set_option maxRecDepth 20000 in
theorem gq_isStep_X00 : GoodIn wsL_law wsX00 := goodIn_r _ [451, 452, 453, 454, 455, 456] (by decide +kernel) (by decide +kernel)
theorem ggL_law_L_isStep : GoodIn wsL_law wsL_isStep := goodIn_cons gq_isStep_c (goodIn_app (goodIn_app (goodIn_app (goodIn_app (goodIn_app (goodIn_app gq_isStep_r1 (goodIn_app gq_isStep_r2 (goodIn_app gq_isStep_r3 (goodIn_app gq_isStep_r4 (goodIn_app gq_isStep_r5 (goodIn_app gq_isStep_r6 (goodIn_app gq_isStep_r7 (goodIn_app gq_isStep_r8 (goodIn_app gq_isStep_r9 (goodIn_app gq_isStep_r10 (goodIn_app gq_isStep_r11 (goodIn_app gq_isStep_r12 (goodIn_app gq_isStep_r13 (goodIn_app gq_isStep_r14 (goodIn_app gq_isStep_r15 (gq_isStep_r16)))))))))))))))) gq_isStep_X40) gq_isStep_X20) gq_isStep_X30) gq_isStep_X10) gq_isStep_X00)
theorem gL_law_L_isStep : GoodIn wsL_law (va_wsS RL 112 yL_isStep wsL_isStep) := goodIn_app (goodIn_of _ (by decide +kernel)) ggL_law_L_isStep
