/-! ===== the words of a step among the law's ===== -/
theorem gq_areAlike_c : GoodIn wsL_law [.code yL_areAlike cL_areAlike 6 (some .boolean)] := goodIn_sub (fun w hw => by rw [List.mem_singleton.mp hw]; exact List.mem_of_getElem? (i := 418) rfl) rfl
set_option maxRecDepth 20000 in
theorem gq_areAlike_r1 : GoodIn wsL_law wsL_areAlike_r1 := goodIn_r _ [409, 244, 245, 246, 2, 247, 13, 12, 158, 135, 136, 11, 137, 29, 30, 31, 32, 33, 34, 138, 139, 140, 141, 142] (by decide +kernel) (by decide +kernel)
set_option maxRecDepth 20000 in
theorem gq_areAlike_r2 : GoodIn wsL_law wsL_areAlike_r2 := goodIn_r _ [143, 144, 145, 146, 147, 148, 119, 149, 150, 151, 152, 153, 248, 249, 250, 251, 252, 167, 168, 169, 170, 171, 172, 173] (by decide +kernel) (by decide +kernel)
set_option maxRecDepth 20000 in
theorem gq_areAlike_r3 : GoodIn wsL_law wsL_areAlike_r3 := goodIn_r _ [174, 121, 122, 123, 175, 176, 177, 178, 179, 131, 132, 133, 180, 181, 182, 183, 184, 185, 186, 187, 188, 189, 190, 191] (by decide +kernel) (by decide +kernel)
set_option maxRecDepth 20000 in
theorem gq_areAlike_r4 : GoodIn wsL_law wsL_areAlike_r4 := goodIn_r _ [192, 193, 194, 195, 196, 197, 198, 199, 200, 201, 202, 117, 118, 120, 419, 420, 421, 422, 111, 110, 350, 423, 424, 425] (by decide +kernel) (by decide +kernel)
set_option maxRecDepth 20000 in
theorem gq_areAlike_r5 : GoodIn wsL_law wsL_areAlike_r5 := goodIn_r _ [426, 427, 428, 69, 65, 66, 67, 68, 70, 71, 72, 73, 74, 75, 24, 76, 17, 77, 78, 79, 80, 81, 82, 83] (by decide +kernel) (by decide +kernel)
set_option maxRecDepth 20000 in
theorem gq_areAlike_r6 : GoodIn wsL_law wsL_areAlike_r6 := goodIn_r _ [84, 85, 86, 87, 88, 89, 90, 91, 92, 93, 94, 95, 96, 97, 264, 265, 266, 267, 102, 237, 238, 239, 268, 269] (by decide +kernel) (by decide +kernel)
