/-! ===== words of one list among another's: the law's methods ===== -/
set_option maxRecDepth 20000 in
theorem ggL_number_X4_put : GoodIn wsL_number wsX4_put := goodIn_r _ [5, 6, 7, 8, 9, 10, 11, 4, 12, 13, 14, 15, 16, 17, 18, 19, 20, 21, 22, 23, 24, 25, 26, 27, 28, 29] (by decide +kernel) (by decide +kernel)
set_option maxRecDepth 20000 in
theorem gL_number_X4_put : GoodIn wsL_number (wsV RL 9 RX4 yX4_put wsX4_put) := goodIn_app (goodIn_of _ (by decide +kernel)) ggL_number_X4_put
set_option maxRecDepth 20000 in
theorem ggL_isTouched_X4_wipe : GoodIn wsL_isTouched wsX4_wipe := goodIn_r _ [9, 10, 11, 12, 13, 14, 15, 16, 17, 248, 249, 250, 251, 252, 253, 254, 255] (by decide +kernel) (by decide +kernel)
set_option maxRecDepth 20000 in
theorem gL_isTouched_X4_wipe : GoodIn wsL_isTouched (wsV RL 15 RX4 yX4_wipe wsX4_wipe) := goodIn_app (goodIn_of _ (by decide +kernel)) ggL_isTouched_X4_wipe
set_option maxRecDepth 20000 in
theorem ggL_isTouched_X4_put : GoodIn wsL_isTouched wsX4_put := goodIn_r _ [21, 22, 10, 11, 23, 24, 25, 8, 26, 27, 28, 29, 30, 15, 31, 17, 32, 33, 248, 249, 250, 251, 252, 253, 254, 255] (by decide +kernel) (by decide +kernel)
set_option maxRecDepth 20000 in
theorem gL_isTouched_X4_put : GoodIn wsL_isTouched (wsV RL 9 RX4 yX4_put wsX4_put) := goodIn_app (goodIn_of _ (by decide +kernel)) ggL_isTouched_X4_put
set_option maxRecDepth 20000 in
theorem ggL_isTouched_L_number : GoodIn wsL_isTouched wsL_number := goodIn_r _ [37, 18, 19, 20, 8, 21, 22, 10, 11, 23, 24, 25, 26, 27, 28, 29, 30, 15, 31, 17, 32, 33, 248, 249, 250, 251, 252, 253, 254, 255] (by decide +kernel) (by decide +kernel)
set_option maxRecDepth 20000 in
theorem gL_isTouched_L_number : GoodIn wsL_isTouched (va_wsS RL 23 yL_number wsL_number) := goodIn_app (goodIn_of _ (by decide +kernel)) ggL_isTouched_L_number
set_option maxRecDepth 20000 in
theorem ggL_isTouched_X4_run : GoodIn wsL_isTouched wsX4_run := goodIn_r _ [41, 42, 43, 44, 45, 46, 47, 10, 48, 49, 50, 51, 52, 53, 54, 55, 56, 57, 58, 59, 60, 61, 62, 63, 64, 65, 66, 67, 68, 69, 70, 71, 72, 73, 15, 74, 17, 32, 75, 76, 77, 78, 79, 80, 81, 82, 83, 84, 85, 86, 87, 88, 89, 90, 91, 92, 93, 94, 95, 96, 97, 98, 99, 100, 101, 102, 103, 104, 105, 106, 107, 108, 109, 110, 111, 112, 113, 114, 115, 116, 117, 118, 119, 120, 121, 122, 123, 124, 125, 126, 127, 128, 129, 130, 131, 8, 132, 133, 134, 135, 136, 137, 138, 139, 140, 141, 142, 143, 144, 145, 146, 147, 148, 149, 150, 151, 152, 153, 154, 155, 156, 157, 158, 159, 160, 161, 162, 163, 164, 165, 166, 167, 168, 169, 170, 171, 172, 173, 174, 175, 176, 177, 178, 179, 180, 181, 182, 183, 184, 185, 186, 187, 188, 189, 190, 191, 192, 193, 194, 195, 196, 197, 198, 199, 200, 201, 202, 203, 204, 205, 206, 207, 208, 209, 210, 211, 212, 213, 214, 215, 216, 217, 218, 219, 220, 221, 222, 223, 224, 225, 226, 227, 228, 229, 230, 231, 232, 233, 12, 13, 14, 16, 248, 249, 250, 251, 252, 253, 256, 257, 258, 259, 260, 261, 262, 263, 264, 265, 266, 267, 268, 269, 270, 271, 272, 273, 274, 254, 255, 275, 276, 277] (by decide +kernel) (by decide +kernel)
set_option maxRecDepth 20000 in
theorem gL_isTouched_X4_run : GoodIn wsL_isTouched (wsV RL 33 RX4 yX4_run wsX4_run) := goodIn_app (goodIn_of _ (by decide +kernel)) ggL_isTouched_X4_run
set_option maxRecDepth 20000 in
theorem ggL_isTouched_X4_sector : GoodIn wsL_isTouched wsX4_sector := goodIn_r _ [237, 238, 46, 239, 240, 241, 242, 8, 243, 244, 245, 246, 247, 156, 103, 157, 158, 105, 106, 107, 248, 249, 250, 251, 252, 253, 256, 257, 258, 259, 260, 261, 262, 263, 264, 265, 266, 267, 268] (by decide +kernel) (by decide +kernel)
set_option maxRecDepth 20000 in
theorem gL_isTouched_X4_sector : GoodIn wsL_isTouched (wsV RL 36 RX4 yX4_sector wsX4_sector) := goodIn_app (goodIn_of _ (by decide +kernel)) ggL_isTouched_X4_sector
set_option maxRecDepth 20000 in
theorem ggL_gap_X4_jar : GoodIn wsL_gap wsX4_jar := goodIn_r _ [5, 6, 7, 8, 9, 10, 11, 12, 13, 14, 15, 16, 17, 18, 19, 20, 21, 22, 23, 24, 25, 26, 27, 28, 29, 30] (by decide +kernel) (by decide +kernel)
set_option maxRecDepth 20000 in
theorem gL_gap_X4_jar : GoodIn wsL_gap (wsV RL 40 RX4 yX4_jar wsX4_jar) := goodIn_app (goodIn_of _ (by decide +kernel)) ggL_gap_X4_jar
