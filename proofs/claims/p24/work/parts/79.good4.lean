/-! ===== words of one list among another's: the law's methods ===== -/
set_option maxRecDepth 20000 in
theorem ggL_areAlike_X4_untilSpark : GoodIn wsL_areAlike wsX4_untilSpark := goodIn_r _ [6, 7, 8, 9, 10, 11, 12, 13, 14, 15, 16, 17, 18, 19, 20, 21, 22, 23, 24, 25, 26, 27, 5, 28, 29, 30, 31, 32, 33, 34, 35, 36, 37, 38, 39, 40, 41, 42, 43, 44, 45, 46, 47, 48, 49, 50, 51, 52, 53, 54, 55, 56, 57, 58, 59, 60, 61, 62, 63, 64, 65, 66, 67, 68, 69, 70, 71, 72, 73, 74, 75, 76, 77, 78, 79, 80, 81, 82, 83, 84, 85, 86, 207, 208, 209, 210, 211, 212, 213, 214, 215, 216, 217, 218, 219, 220, 221, 222, 223, 224, 225] (by decide +kernel) (by decide +kernel)
set_option maxRecDepth 20000 in
theorem gL_areAlike_X4_untilSpark : GoodIn wsL_areAlike (wsV RL 64 RX4 yX4_untilSpark wsX4_untilSpark) := goodIn_app (goodIn_of _ (by decide +kernel)) ggL_areAlike_X4_untilSpark
set_option maxRecDepth 20000 in
theorem ggL_areAlike_X4_widestGap : GoodIn wsL_areAlike wsX4_widestGap := goodIn_r _ [90, 7, 8, 63, 51, 31, 52, 91, 29, 30, 32, 92, 93, 9, 10, 11, 12, 13, 14, 15, 16, 17, 18, 19, 20, 21, 22, 23, 24, 25, 26, 27, 5, 28, 33, 34, 35, 36, 94, 43, 44, 45, 46, 47, 48, 49, 50, 53, 54, 55, 56, 57, 58, 59, 60, 61, 62, 64, 65, 66, 67, 68, 69, 70, 71, 72, 73, 74, 75, 95, 81, 82, 83, 84, 85, 86, 207, 208, 209, 210, 211, 212, 213, 214, 215, 216, 217, 218, 219, 220, 221, 222, 223, 224, 225] (by decide +kernel) (by decide +kernel)
set_option maxRecDepth 20000 in
theorem gL_areAlike_X4_widestGap : GoodIn wsL_areAlike (wsV RL 97 RX4 yX4_widestGap wsX4_widestGap) := goodIn_app (goodIn_of _ (by decide +kernel)) ggL_areAlike_X4_widestGap
set_option maxRecDepth 20000 in
theorem ggL_areAlike_X4_mostDamp : GoodIn wsL_areAlike wsX4_mostDamp := goodIn_r _ [99, 91, 92, 7, 8, 100, 93, 9, 10, 11, 12, 13, 14, 15, 16, 17, 18, 19, 20, 21, 22, 23, 24, 25, 26, 27, 5, 28, 29, 30, 31, 32, 33, 34, 35, 36, 37, 38, 39, 40, 41, 42, 43, 44, 45, 46, 47, 48, 49, 50, 51, 52, 53, 54, 55, 56, 57, 58, 59, 60, 61, 62, 63, 64, 65, 66, 67, 68, 69, 70, 71, 72, 73, 74, 75, 76, 77, 78, 79, 80, 81, 82, 83, 84, 85, 86, 207, 208, 209, 210, 211, 212, 213, 214, 215, 216, 217, 218, 219, 220, 221, 222, 223, 224, 225] (by decide +kernel) (by decide +kernel)
set_option maxRecDepth 20000 in
theorem gL_areAlike_X4_mostDamp : GoodIn wsL_areAlike (wsV RL 100 RX4 yX4_mostDamp wsX4_mostDamp) := goodIn_app (goodIn_of _ (by decide +kernel)) ggL_areAlike_X4_mostDamp
set_option maxRecDepth 20000 in
theorem ggL_areAlike_X4_count : GoodIn wsL_areAlike wsX4_count := goodIn_r _ [104, 8, 100, 105, 106, 107, 108, 109, 110, 111, 112, 113, 114, 115, 116, 117, 118, 12, 119, 16, 120, 121, 122, 123, 124, 125, 126, 127, 128, 129, 130, 131, 15, 132, 133, 134, 207, 208, 209, 210, 211, 212, 213, 214, 215, 216, 217, 218, 219, 220, 221, 222, 223, 224, 225, 226, 227, 228, 229, 230] (by decide +kernel) (by decide +kernel)
set_option maxRecDepth 20000 in
theorem gL_areAlike_X4_count : GoodIn wsL_areAlike (wsV RL 46 RX4 yX4_count wsX4_count) := goodIn_app (goodIn_of _ (by decide +kernel)) ggL_areAlike_X4_count
set_option maxRecDepth 20000 in
theorem ggL_areAlike_X4_disc : GoodIn wsL_areAlike wsX4_disc := goodIn_r _ [138, 139, 8, 115, 140, 141, 5, 142, 143, 129, 130, 12, 131, 15, 132, 133, 134, 144, 145, 146, 147, 120, 121, 122, 123, 148, 149, 150, 151, 50, 51, 31, 52, 152, 153, 154, 155, 53, 30, 32, 207, 208, 209, 210, 211, 212, 213, 214, 215, 216, 217, 218, 219, 220, 221, 222, 223, 224, 225] (by decide +kernel) (by decide +kernel)
set_option maxRecDepth 20000 in
theorem gL_areAlike_X4_disc : GoodIn wsL_areAlike (wsV RL 74 RX4 yX4_disc wsX4_disc) := goodIn_app (goodIn_of _ (by decide +kernel)) ggL_areAlike_X4_disc
set_option maxRecDepth 20000 in
theorem ggL_areAlike_X4_sector : GoodIn wsL_areAlike wsX4_sector := goodIn_r _ [159, 139, 8, 160, 105, 140, 141, 5, 142, 161, 162, 163, 164, 55, 12, 56, 57, 58, 59, 60, 207, 208, 209, 210, 211, 212, 213, 214, 215, 216, 217, 218, 219, 220, 221, 222, 223, 224, 225] (by decide +kernel) (by decide +kernel)
set_option maxRecDepth 20000 in
theorem gL_areAlike_X4_sector : GoodIn wsL_areAlike (wsV RL 36 RX4 yX4_sector wsX4_sector) := goodIn_app (goodIn_of _ (by decide +kernel)) ggL_areAlike_X4_sector
set_option maxRecDepth 20000 in
theorem ggL_areAlike_X4_jar : GoodIn wsL_areAlike wsX4_jar := goodIn_r _ [168, 139, 8, 169, 170, 171, 115, 207, 208, 209, 210, 211, 212, 213, 214, 215, 216, 217, 218, 219, 220, 221, 222, 223, 224, 225] (by decide +kernel) (by decide +kernel)
set_option maxRecDepth 20000 in
theorem gL_areAlike_X4_jar : GoodIn wsL_areAlike (wsV RL 40 RX4 yX4_jar wsX4_jar) := goodIn_app (goodIn_of _ (by decide +kernel)) ggL_areAlike_X4_jar
set_option maxRecDepth 20000 in
theorem ggL_areAlike_X4_spark : GoodIn wsL_areAlike wsX4_spark := goodIn_r _ [175, 115, 8, 106, 93, 176, 177, 178, 12, 179, 57, 58, 59, 60, 207, 208, 209, 210, 211, 212, 213, 214, 215, 216, 217, 218, 219, 220, 221, 222, 223, 224, 225] (by decide +kernel) (by decide +kernel)
set_option maxRecDepth 20000 in
theorem gL_areAlike_X4_spark : GoodIn wsL_areAlike (wsV RL 103 RX4 yX4_spark wsX4_spark) := goodIn_app (goodIn_of _ (by decide +kernel)) ggL_areAlike_X4_spark
set_option maxRecDepth 20000 in
theorem ggL_areAlike_L_up : GoodIn wsL_areAlike wsL_up := goodIn_r _ [183, 184] (by decide +kernel) (by decide +kernel)
set_option maxRecDepth 20000 in
theorem gL_areAlike_L_up : GoodIn wsL_areAlike (va_wsS RL 43 yL_up wsL_up) := goodIn_app (goodIn_of _ (by decide +kernel)) ggL_areAlike_L_up
set_option maxRecDepth 20000 in
theorem ggL_areAlike_X4_ifTurned : GoodIn wsL_areAlike wsX4_ifTurned := goodIn_r _ [188, 115, 7, 8, 106, 107, 169, 9, 10, 11, 12, 13, 14, 15, 16, 17, 18, 19, 20, 21, 22, 23, 24, 25, 26, 27, 5, 28, 29, 30, 31, 32, 33, 34, 35, 36, 189, 190, 191, 192, 50, 51, 52, 193, 194, 195, 196, 42, 43, 44, 45, 46, 47, 48, 49, 53, 54, 55, 56, 57, 58, 59, 60, 61, 62, 63, 64, 65, 66, 67, 68, 69, 70, 71, 72, 73, 74, 75, 76, 77, 78, 79, 80, 81, 82, 83, 84, 85, 86, 197, 198, 199, 200, 201, 178, 179, 202, 203, 204, 205, 206, 117, 118, 119, 120, 121, 122, 123, 124, 125, 126, 127, 128, 129, 130, 131, 132, 133, 134, 207, 208, 209, 210, 211, 212, 213, 214, 215, 216, 217, 218, 219, 220, 221, 222, 223, 224, 225] (by decide +kernel) (by decide +kernel)
set_option maxRecDepth 20000 in
theorem gL_areAlike_X4_ifTurned : GoodIn wsL_areAlike (wsV RL 54 RX4 yX4_ifTurned wsX4_ifTurned) := goodIn_app (goodIn_of _ (by decide +kernel)) ggL_areAlike_X4_ifTurned
