/-! ===== words of one list among another's: the law's methods ===== -/
set_option maxRecDepth 20000 in
theorem ggL_isStep_L_up : GoodIn wsL_isStep wsL_up := goodIn_r _ [5, 6] (by decide +kernel) (by decide +kernel)
set_option maxRecDepth 20000 in
theorem gL_isStep_L_up : GoodIn wsL_isStep (va_wsS RL 43 yL_up wsL_up) := goodIn_app (goodIn_of _ (by decide +kernel)) ggL_isStep_L_up
set_option maxRecDepth 20000 in
theorem ggL_isStep_X4_count : GoodIn wsL_isStep wsX4_count := goodIn_r _ [11, 12, 13, 14, 15, 16, 17, 18, 19, 20, 21, 22, 23, 24, 25, 26, 27, 28, 29, 30, 31, 32, 33, 34, 35, 36, 37, 38, 39, 40, 41, 42, 43, 44, 45, 46, 377, 378, 379, 380, 381, 382, 383, 384, 385, 386, 387, 388, 389, 390, 391, 392, 393, 394, 395, 396, 397, 398, 399, 400] (by decide +kernel) (by decide +kernel)
set_option maxRecDepth 20000 in
theorem gL_isStep_X4_count : GoodIn wsL_isStep (wsV RL 46 RX4 yX4_count wsX4_count) := goodIn_app (goodIn_of _ (by decide +kernel)) ggL_isStep_X4_count
set_option maxRecDepth 20000 in
theorem ggL_isStep_X4_jar : GoodIn wsL_isStep wsX4_jar := goodIn_r _ [50, 51, 12, 52, 53, 54, 24, 377, 378, 379, 380, 381, 382, 383, 384, 385, 386, 387, 388, 389, 390, 391, 392, 393, 394, 395] (by decide +kernel) (by decide +kernel)
set_option maxRecDepth 20000 in
theorem gL_isStep_X4_jar : GoodIn wsL_isStep (wsV RL 40 RX4 yX4_jar wsX4_jar) := goodIn_app (goodIn_of _ (by decide +kernel)) ggL_isStep_X4_jar
set_option maxRecDepth 20000 in
theorem ggL_isStep_X4_set : GoodIn wsL_isStep wsX4_set := goodIn_r _ [58, 24, 59, 60, 12, 61, 22, 13, 62, 63, 64, 28, 65, 30, 66, 67, 68, 69, 70, 71, 72, 73, 74, 75, 76, 77, 78, 79, 80, 81, 82, 83, 84, 85, 86, 87, 88, 89, 90, 91, 92, 93, 43, 94, 95, 96, 97, 98, 99, 100, 101, 102, 103, 104, 105, 106, 107, 108, 10, 109, 110, 111, 112, 113, 114, 115, 116, 377, 378, 379, 380, 381, 382, 383, 384, 385, 386, 387, 388, 389, 390, 391, 392, 393, 394, 395, 398, 399, 400] (by decide +kernel) (by decide +kernel)
set_option maxRecDepth 20000 in
theorem gL_isStep_X4_set : GoodIn wsL_isStep (wsV RL 50 RX4 yX4_set wsX4_set) := goodIn_app (goodIn_of _ (by decide +kernel)) ggL_isStep_X4_set
set_option maxRecDepth 20000 in
theorem ggL_isStep_X4_ifTurned : GoodIn wsL_isStep wsX4_ifTurned := goodIn_r _ [120, 24, 121, 12, 15, 16, 52, 122, 98, 99, 28, 100, 93, 43, 30, 94, 95, 96, 101, 102, 103, 104, 105, 106, 107, 108, 10, 109, 110, 111, 68, 112, 113, 114, 115, 116, 123, 124, 125, 126, 70, 71, 72, 127, 128, 129, 130, 131, 132, 133, 134, 135, 136, 137, 138, 139, 140, 141, 142, 143, 84, 85, 86, 144, 145, 146, 147, 148, 149, 150, 151, 152, 153, 154, 155, 156, 157, 158, 159, 160, 161, 162, 163, 164, 165, 166, 66, 67, 69, 167, 168, 169, 170, 171, 172, 173, 174, 175, 176, 177, 178, 26, 27, 29, 31, 32, 33, 34, 35, 36, 37, 38, 39, 40, 41, 42, 44, 45, 46, 377, 378, 379, 380, 381, 382, 383, 384, 385, 386, 387, 388, 389, 390, 391, 392, 393, 394, 395] (by decide +kernel) (by decide +kernel)
set_option maxRecDepth 20000 in
theorem gL_isStep_X4_ifTurned : GoodIn wsL_isStep (wsV RL 54 RX4 yX4_ifTurned wsX4_ifTurned) := goodIn_app (goodIn_of _ (by decide +kernel)) ggL_isStep_X4_ifTurned
set_option maxRecDepth 20000 in
theorem ggL_isStep_X4_turn : GoodIn wsL_isStep wsX4_turn := goodIn_r _ [182, 24, 12, 183, 22, 184, 185, 186, 28, 187, 101, 188, 73, 74, 75, 76, 77, 78, 79, 80, 81, 82, 83, 84, 85, 86, 87, 88, 89, 90, 91, 92, 93, 43, 30, 94, 95, 96, 97, 98, 99, 100, 102, 103, 104, 105, 106, 107, 108, 10, 109, 110, 111, 68, 112, 113, 114, 115, 116, 189, 190, 191, 192, 127, 128, 129, 130, 131, 132, 133, 134, 135, 136, 137, 138, 70, 71, 72, 139, 140, 141, 142, 143, 144, 145, 146, 147, 148, 149, 150, 151, 152, 153, 154, 155, 156, 157, 158, 159, 160, 161, 162, 163, 164, 165, 166, 66, 67, 69, 167, 168, 169, 170, 171, 172, 173, 174, 175, 176, 177, 178, 26, 27, 29, 31, 32, 33, 34, 377, 378, 379, 380, 381, 382, 383, 384, 385, 386, 387, 388, 389, 390, 391, 392, 393, 394, 395, 398, 399, 400] (by decide +kernel) (by decide +kernel)
set_option maxRecDepth 20000 in
theorem gL_isStep_X4_turn : GoodIn wsL_isStep (wsV RL 57 RX4 yX4_turn wsX4_turn) := goodIn_app (goodIn_of _ (by decide +kernel)) ggL_isStep_X4_turn
set_option maxRecDepth 20000 in
theorem ggL_isStep_L_isTurned : GoodIn wsL_isStep wsL_isTurned := goodIn_r _ [195, 92, 7, 8, 9, 10, 11, 12, 13, 14, 15, 16, 17, 18, 19, 20, 21, 22, 23, 24, 25, 26, 27, 28, 29, 30, 31, 32, 33, 34, 35, 36, 37, 38, 39, 40, 41, 42, 43, 44, 45, 46, 47, 48, 49, 50, 51, 52, 53, 54, 196, 197, 198, 199, 200, 201, 202, 203, 204, 205, 206, 207, 141, 142, 143, 84, 85, 86, 179, 180, 181, 182, 183, 184, 185, 186, 187, 101, 188, 73, 74, 75, 76, 77, 78, 79, 80, 81, 82, 83, 87, 88, 89, 90, 91, 93, 94, 95, 96, 97, 98, 99, 100, 102, 103, 104, 105, 106, 107, 108, 109, 110, 111, 68, 112, 113, 114, 115, 116, 189, 190, 191, 192, 127, 128, 129, 130, 131, 132, 133, 134, 135, 136, 137, 138, 70, 71, 72, 139, 140, 144, 145, 146, 147, 148, 149, 150, 151, 152, 153, 154, 155, 156, 157, 158, 159, 160, 161, 162, 163, 164, 165, 166, 66, 67, 69, 167, 168, 169, 170, 171, 172, 173, 174, 175, 176, 177, 178, 377, 378, 379, 380, 381, 382, 383, 384, 385, 386, 387, 388, 389, 390, 391, 392, 393, 394, 395, 396, 397, 398, 399, 400] (by decide +kernel) (by decide +kernel)
set_option maxRecDepth 20000 in
theorem gL_isStep_L_isTurned : GoodIn wsL_isStep (va_wsS RL 60 yL_isTurned wsL_isTurned) := goodIn_app (goodIn_of _ (by decide +kernel)) ggL_isStep_L_isTurned
set_option maxRecDepth 20000 in
theorem ggL_isStep_X4_untilSpark : GoodIn wsL_isStep wsX4_untilSpark := goodIn_r _ [211, 121, 12, 122, 98, 99, 28, 100, 93, 43, 30, 94, 95, 96, 101, 102, 103, 104, 105, 106, 107, 108, 10, 109, 110, 111, 68, 112, 113, 114, 115, 116, 212, 213, 214, 215, 216, 131, 132, 133, 134, 135, 136, 137, 138, 70, 71, 72, 139, 140, 141, 142, 143, 84, 85, 86, 144, 145, 146, 147, 148, 149, 150, 151, 152, 153, 154, 155, 156, 157, 158, 159, 160, 161, 162, 163, 164, 165, 166, 66, 67, 69, 377, 378, 379, 380, 381, 382, 383, 384, 385, 386, 387, 388, 389, 390, 391, 392, 393, 394, 395] (by decide +kernel) (by decide +kernel)
set_option maxRecDepth 20000 in
theorem gL_isStep_X4_untilSpark : GoodIn wsL_isStep (wsV RL 64 RX4 yX4_untilSpark wsX4_untilSpark) := goodIn_app (goodIn_of _ (by decide +kernel)) ggL_isStep_X4_untilSpark
set_option maxRecDepth 20000 in
theorem ggL_isStep_L_gap : GoodIn wsL_isStep wsL_gap := goodIn_r _ [219, 47, 48, 49, 10, 50, 51, 12, 52, 53, 54, 24, 377, 378, 379, 380, 381, 382, 383, 384, 385, 386, 387, 388, 389, 390, 391, 392, 393, 394, 395] (by decide +kernel) (by decide +kernel)
set_option maxRecDepth 20000 in
theorem gL_isStep_L_gap : GoodIn wsL_isStep (va_wsS RL 67 yL_gap wsL_gap) := goodIn_app (goodIn_of _ (by decide +kernel)) ggL_isStep_L_gap
set_option maxRecDepth 20000 in
theorem ggL_isStep_X4_discharge : GoodIn wsL_isStep wsX4_discharge := goodIn_r _ [223, 22, 12, 73, 74, 75, 76, 77, 78, 79, 80, 81, 82, 28, 83, 84, 85, 86, 87, 88, 89, 90, 91, 92, 93, 43, 30, 94, 95, 96, 97, 98, 99, 100, 101, 102, 103, 104, 105, 106, 107, 108, 10, 109, 110, 111, 68, 112, 113, 114, 115, 116, 224, 225, 226, 227, 163, 164, 165, 166, 66, 67, 69, 377, 378, 379, 380, 381, 382, 398, 399, 400, 383, 384, 385, 386, 387, 388, 389, 390, 391, 392, 393, 394, 395] (by decide +kernel) (by decide +kernel)
set_option maxRecDepth 20000 in
theorem gL_isStep_X4_discharge : GoodIn wsL_isStep (wsV RL 71 RX4 yX4_discharge wsX4_discharge) := goodIn_app (goodIn_of _ (by decide +kernel)) ggL_isStep_X4_discharge
set_option maxRecDepth 20000 in
theorem ggL_isStep_X4_disc : GoodIn wsL_isStep wsX4_disc := goodIn_r _ [231, 51, 12, 24, 201, 202, 10, 203, 232, 40, 41, 28, 42, 43, 44, 45, 46, 233, 234, 235, 236, 31, 32, 33, 34, 237, 238, 239, 240, 70, 71, 68, 72, 241, 242, 243, 244, 139, 111, 112, 377, 378, 379, 380, 381, 382, 383, 384, 385, 386, 387, 388, 389, 390, 391, 392, 393, 394, 395] (by decide +kernel) (by decide +kernel)
set_option maxRecDepth 20000 in
theorem gL_isStep_X4_disc : GoodIn wsL_isStep (wsV RL 74 RX4 yX4_disc wsX4_disc) := goodIn_app (goodIn_of _ (by decide +kernel)) ggL_isStep_X4_disc
set_option maxRecDepth 20000 in
theorem ggL_isStep_X4_wipeDisc : GoodIn wsL_isStep wsX4_wipeDisc := goodIn_r _ [248, 51, 22, 12, 201, 202, 10, 203, 73, 74, 75, 76, 77, 78, 79, 80, 81, 82, 28, 83, 84, 85, 86, 87, 88, 89, 90, 91, 92, 93, 43, 30, 94, 95, 96, 97, 98, 99, 100, 101, 102, 103, 104, 105, 106, 107, 108, 109, 110, 111, 68, 112, 113, 114, 115, 116, 249, 250, 251, 252, 253, 234, 235, 236, 44, 45, 46, 31, 32, 33, 34, 39, 40, 41, 42, 377, 378, 379, 380, 381, 382, 398, 399, 400, 383, 384, 385, 386, 387, 388, 389, 390, 391, 392, 393, 394, 395] (by decide +kernel) (by decide +kernel)
set_option maxRecDepth 20000 in
theorem gL_isStep_X4_wipeDisc : GoodIn wsL_isStep (wsV RL 77 RX4 yX4_wipeDisc wsX4_wipeDisc) := goodIn_app (goodIn_of _ (by decide +kernel)) ggL_isStep_X4_wipeDisc
set_option maxRecDepth 20000 in
theorem ggL_isStep_X4_undo : GoodIn wsL_isStep wsX4_undo := goodIn_r _ [257, 22, 12, 61, 23, 258, 259, 260, 76, 261, 78, 80, 79, 83, 84, 85, 86, 97, 98, 99, 28, 100, 93, 43, 30, 94, 95, 96, 101, 102, 103, 104, 105, 106, 107, 108, 10, 109, 110, 111, 68, 112, 113, 114, 115, 116, 377, 378, 379, 380, 381, 382, 398, 399, 400, 383, 384, 385, 386, 387, 388, 389, 390, 391, 392, 393, 394, 395] (by decide +kernel) (by decide +kernel)
set_option maxRecDepth 20000 in
theorem gL_isStep_X4_undo : GoodIn wsL_isStep (wsV RL 80 RX4 yX4_undo wsX4_undo) := goodIn_app (goodIn_of _ (by decide +kernel)) ggL_isStep_X4_undo
set_option maxRecDepth 20000 in
theorem ggL_isStep_X4_save : GoodIn wsL_isStep wsX4_save := goodIn_r _ [265, 24, 266, 267, 82, 28, 12, 14, 87, 88, 89, 90, 91, 92, 93, 43, 30, 94, 95, 96, 122, 98, 99, 100, 101, 102, 103, 104, 105, 106, 107, 108, 10, 109, 110, 111, 68, 112, 113, 114, 115, 116, 377, 378, 379, 380, 381, 382, 383, 384, 385, 386, 387, 388, 389, 390, 391, 392, 393, 394, 395] (by decide +kernel) (by decide +kernel)
set_option maxRecDepth 20000 in
theorem gL_isStep_X4_save : GoodIn wsL_isStep (wsV RL 83 RX4 yX4_save wsX4_save) := goodIn_app (goodIn_of _ (by decide +kernel)) ggL_isStep_X4_save
set_option maxRecDepth 20000 in
theorem ggL_isStep_X4_restore : GoodIn wsL_isStep wsX4_restore := goodIn_r _ [271, 24, 266, 61, 22, 12, 14, 73, 74, 75, 76, 77, 78, 79, 80, 81, 82, 28, 83, 84, 85, 86, 87, 88, 89, 90, 91, 92, 93, 43, 30, 94, 95, 96, 97, 98, 99, 100, 101, 102, 103, 104, 105, 106, 107, 108, 10, 109, 110, 111, 68, 112, 113, 114, 115, 116, 122, 377, 378, 379, 380, 381, 382, 383, 384, 385, 386, 387, 388, 389, 390, 391, 392, 393, 394, 395, 398, 399, 400] (by decide +kernel) (by decide +kernel)
set_option maxRecDepth 20000 in
theorem gL_isStep_X4_restore : GoodIn wsL_isStep (wsV RL 86 RX4 yX4_restore wsX4_restore) := goodIn_app (goodIn_of _ (by decide +kernel)) ggL_isStep_X4_restore
set_option maxRecDepth 20000 in
theorem ggL_isStep_X4_sector : GoodIn wsL_isStep wsX4_sector := goodIn_r _ [199, 51, 12, 200, 14, 201, 202, 10, 203, 204, 205, 206, 207, 141, 28, 142, 143, 84, 85, 86, 377, 378, 379, 380, 381, 382, 383, 384, 385, 386, 387, 388, 389, 390, 391, 392, 393, 394, 395] (by decide +kernel) (by decide +kernel)
set_option maxRecDepth 20000 in
theorem gL_isStep_X4_sector : GoodIn wsL_isStep (wsV RL 36 RX4 yX4_sector wsX4_sector) := goodIn_app (goodIn_of _ (by decide +kernel)) ggL_isStep_X4_sector
set_option maxRecDepth 20000 in
theorem ggL_isStep_X4_touch : GoodIn wsL_isStep wsX4_touch := goodIn_r _ [275, 51, 24, 22, 12, 201, 202, 10, 203, 204, 205, 206, 73, 74, 75, 76, 77, 78, 79, 80, 81, 82, 28, 83, 84, 85, 86, 87, 88, 89, 90, 91, 92, 93, 43, 30, 94, 95, 96, 97, 98, 99, 100, 101, 102, 103, 104, 105, 106, 107, 108, 109, 110, 111, 68, 112, 113, 114, 115, 116, 276, 277, 278, 279, 140, 141, 142, 143, 377, 378, 379, 380, 381, 382, 398, 399, 400, 383, 384, 385, 386, 387, 388, 389, 390, 391, 392, 393, 394, 395] (by decide +kernel) (by decide +kernel)
set_option maxRecDepth 20000 in
theorem gL_isStep_X4_touch : GoodIn wsL_isStep (wsV RL 89 RX4 yX4_touch wsX4_touch) := goodIn_app (goodIn_of _ (by decide +kernel)) ggL_isStep_X4_touch
set_option maxRecDepth 20000 in
theorem ggL_isStep_L_isTouched : GoodIn wsL_isStep wsL_isTouched := goodIn_r _ [282, 283, 284, 285, 286, 287, 288, 289, 10, 290, 20, 21, 291, 292, 293, 294, 295, 296, 297, 298, 299, 300, 24, 183, 301, 302, 303, 304, 305, 306, 307, 308, 309, 310, 311, 312, 4, 313, 314, 315, 316, 317, 318, 319, 320, 22, 12, 15, 321, 322, 323, 324, 325, 326, 327, 328, 329, 330, 331, 332, 333, 334, 335, 336, 337, 338, 339, 340, 341, 342, 343, 344, 345, 346, 347, 348, 349, 350, 351, 352, 353, 354, 355, 356, 357, 358, 359, 360, 361, 362, 363, 364, 365, 73, 74, 75, 76, 77, 78, 79, 80, 81, 82, 28, 83, 84, 85, 86, 87, 88, 89, 90, 91, 92, 93, 43, 30, 94, 95, 96, 97, 98, 99, 100, 101, 102, 103, 104, 105, 106, 107, 108, 109, 110, 111, 68, 112, 113, 114, 115, 116, 366, 367, 368, 369, 370, 371, 372, 373, 374, 375, 276, 277, 278, 279, 140, 141, 142, 143, 224, 225, 226, 227, 163, 164, 165, 166, 66, 67, 69, 184, 185, 186, 187, 188, 189, 190, 191, 192, 127, 128, 129, 130, 131, 132, 133, 134, 135, 136, 137, 138, 70, 71, 72, 139, 144, 145, 146, 147, 148, 149, 150, 151, 152, 153, 154, 155, 156, 157, 158, 159, 160, 161, 162, 167, 168, 169, 170, 171, 172, 173, 174, 175, 176, 177, 178, 26, 27, 29, 31, 32, 33, 34, 376, 196, 197, 198, 199, 51, 200, 14, 201, 202, 203, 204, 205, 206, 207, 377, 378, 379, 380, 381, 382, 396, 397, 383, 384, 385, 386, 387, 388, 389, 390, 391, 392, 393, 394, 395, 401, 402, 403, 404, 405, 406, 398, 399, 400] (by decide +kernel) (by decide +kernel)
set_option maxRecDepth 20000 in
theorem gL_isStep_L_isTouched : GoodIn wsL_isStep (va_wsS RL 93 yL_isTouched wsL_isTouched) := goodIn_app (goodIn_of _ (by decide +kernel)) ggL_isStep_L_isTouched
