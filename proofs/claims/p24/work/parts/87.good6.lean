/-! ===== words of one list among another's: the law's methods ===== -/
set_option maxRecDepth 20000 in
theorem ggL_law_L_isWell : GoodIn wsL_law wsL_isWell := goodIn_r _ [408, 409, 98, 99, 100, 2, 101, 102, 12, 103, 104, 105, 78, 65, 66, 67, 68, 69, 70, 71, 72, 73, 74, 75, 24, 76, 17, 77, 79, 80, 81, 11, 82, 31, 83, 84, 85, 86, 87, 88, 89, 90, 91, 92, 93, 94, 30, 95, 96, 97, 264, 265, 266, 267, 237, 238, 239, 268, 269, 270, 271, 272, 273, 274, 275, 276, 121, 122, 119, 123, 277, 278, 279, 280, 175, 148, 149, 410, 411, 412, 413, 350, 414, 415, 208, 209, 179, 131, 132, 133, 429, 430, 431, 432, 433, 434, 435, 436, 437, 438, 439, 440, 441, 442, 443, 444, 445, 446, 447, 457, 458, 448, 449, 450] (by decide +kernel) (by decide +kernel)
set_option maxRecDepth 20000 in
theorem gL_law_L_isWell : GoodIn wsL_law (va_wsS RL 116 yL_isWell wsL_isWell) := goodIn_app (goodIn_of _ (by decide +kernel)) ggL_law_L_isWell
