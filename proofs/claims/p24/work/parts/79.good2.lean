/-! ===== words of one list among another's: the law's methods ===== -/
set_option maxRecDepth 20000 in
theorem ggL_isTurned_X4_count : GoodIn wsL_isTurned wsX4_count := goodIn_r _ [6, 7, 8, 9, 10, 11, 12, 13, 14, 15, 16, 17, 18, 19, 20, 21, 22, 23, 24, 25, 26, 27, 28, 29, 30, 31, 32, 33, 34, 35, 36, 37, 38, 39, 40, 41, 178, 179, 180, 181, 182, 183, 184, 185, 186, 187, 188, 189, 190, 191, 192, 193, 194, 195, 196, 197, 198, 199, 200, 201] (by decide +kernel) (by decide +kernel)
set_option maxRecDepth 20000 in
theorem gL_isTurned_X4_count : GoodIn wsL_isTurned (wsV RL 46 RX4 yX4_count wsX4_count) := goodIn_app (goodIn_of _ (by decide +kernel)) ggL_isTurned_X4_count
set_option maxRecDepth 20000 in
theorem ggL_isTurned_X4_jar : GoodIn wsL_isTurned wsX4_jar := goodIn_r _ [45, 46, 7, 47, 48, 49, 19, 178, 179, 180, 181, 182, 183, 184, 185, 186, 187, 188, 189, 190, 191, 192, 193, 194, 195, 196] (by decide +kernel) (by decide +kernel)
set_option maxRecDepth 20000 in
theorem gL_isTurned_X4_jar : GoodIn wsL_isTurned (wsV RL 40 RX4 yX4_jar wsX4_jar) := goodIn_app (goodIn_of _ (by decide +kernel)) ggL_isTurned_X4_jar
set_option maxRecDepth 20000 in
theorem ggL_isTurned_X4_sector : GoodIn wsL_isTurned wsX4_sector := goodIn_r _ [53, 46, 7, 54, 9, 55, 56, 5, 57, 58, 59, 60, 61, 62, 23, 63, 64, 65, 66, 67, 178, 179, 180, 181, 182, 183, 184, 185, 186, 187, 188, 189, 190, 191, 192, 193, 194, 195, 196] (by decide +kernel) (by decide +kernel)
set_option maxRecDepth 20000 in
theorem gL_isTurned_X4_sector : GoodIn wsL_isTurned (wsV RL 36 RX4 yX4_sector wsX4_sector) := goodIn_app (goodIn_of _ (by decide +kernel)) ggL_isTurned_X4_sector
set_option maxRecDepth 20000 in
theorem ggL_isTurned_X4_turn : GoodIn wsL_isTurned wsX4_turn := goodIn_r _ [71, 19, 7, 72, 17, 73, 74, 75, 23, 76, 77, 78, 79, 80, 81, 82, 83, 84, 85, 86, 87, 88, 89, 65, 66, 67, 90, 91, 92, 93, 94, 1, 95, 38, 25, 96, 97, 98, 99, 100, 101, 102, 103, 104, 105, 106, 107, 108, 109, 5, 110, 111, 112, 113, 114, 115, 116, 117, 118, 119, 120, 121, 122, 123, 124, 125, 126, 127, 128, 129, 130, 131, 132, 133, 134, 135, 136, 137, 138, 139, 62, 63, 64, 140, 141, 142, 143, 144, 145, 146, 147, 148, 149, 150, 151, 152, 153, 154, 155, 156, 157, 158, 159, 160, 161, 162, 163, 164, 165, 166, 167, 168, 169, 170, 171, 172, 173, 174, 175, 176, 177, 21, 22, 24, 26, 27, 28, 29, 178, 179, 180, 181, 182, 183, 184, 185, 186, 187, 188, 189, 190, 191, 192, 193, 194, 195, 196, 199, 200, 201] (by decide +kernel) (by decide +kernel)
set_option maxRecDepth 20000 in
theorem gL_isTurned_X4_turn : GoodIn wsL_isTurned (wsV RL 57 RX4 yX4_turn wsX4_turn) := goodIn_app (goodIn_of _ (by decide +kernel)) ggL_isTurned_X4_turn
set_option maxRecDepth 20000 in
theorem ggL_isWell_X4_jar : GoodIn wsL_isWell wsX4_jar := goodIn_r _ [6, 7, 8, 9, 10, 11, 12, 90, 91, 92, 93, 94, 95, 96, 97, 98, 99, 100, 101, 102, 103, 104, 105, 106, 107, 108] (by decide +kernel) (by decide +kernel)
set_option maxRecDepth 20000 in
theorem gL_isWell_X4_jar : GoodIn wsL_isWell (wsV RL 40 RX4 yX4_jar wsX4_jar) := goodIn_app (goodIn_of _ (by decide +kernel)) ggL_isWell_X4_jar
set_option maxRecDepth 20000 in
theorem ggL_isWell_X4_count : GoodIn wsL_isWell wsX4_count := goodIn_r _ [16, 8, 17, 18, 19, 20, 21, 22, 23, 24, 25, 26, 27, 12, 28, 29, 30, 31, 32, 33, 34, 35, 36, 37, 38, 39, 40, 41, 42, 43, 44, 45, 46, 47, 48, 49, 90, 91, 92, 93, 94, 95, 96, 97, 98, 99, 100, 101, 102, 103, 104, 105, 106, 107, 108, 109, 110, 111, 112, 113] (by decide +kernel) (by decide +kernel)
set_option maxRecDepth 20000 in
theorem gL_isWell_X4_count : GoodIn wsL_isWell (wsV RL 46 RX4 yX4_count wsX4_count) := goodIn_app (goodIn_of _ (by decide +kernel)) ggL_isWell_X4_count
set_option maxRecDepth 20000 in
theorem ggL_isWell_X4_disc : GoodIn wsL_isWell wsX4_disc := goodIn_r _ [53, 7, 8, 12, 54, 55, 5, 56, 57, 43, 44, 31, 45, 46, 47, 48, 49, 58, 59, 60, 61, 34, 35, 36, 37, 62, 63, 64, 65, 66, 67, 68, 69, 70, 71, 72, 73, 74, 75, 76, 90, 91, 92, 93, 94, 95, 96, 97, 98, 99, 100, 101, 102, 103, 104, 105, 106, 107, 108] (by decide +kernel) (by decide +kernel)
set_option maxRecDepth 20000 in
theorem gL_isWell_X4_disc : GoodIn wsL_isWell (wsV RL 74 RX4 yX4_disc wsX4_disc) := goodIn_app (goodIn_of _ (by decide +kernel)) ggL_isWell_X4_disc
set_option maxRecDepth 20000 in
theorem ggL_isWell_X4_spark : GoodIn wsL_isWell wsX4_spark := goodIn_r _ [80, 12, 8, 19, 81, 82, 83, 84, 31, 85, 86, 87, 88, 89, 90, 91, 92, 93, 94, 95, 96, 97, 98, 99, 100, 101, 102, 103, 104, 105, 106, 107, 108] (by decide +kernel) (by decide +kernel)
set_option maxRecDepth 20000 in
theorem gL_isWell_X4_spark : GoodIn wsL_isWell (wsV RL 103 RX4 yX4_spark wsX4_spark) := goodIn_app (goodIn_of _ (by decide +kernel)) ggL_isWell_X4_spark
