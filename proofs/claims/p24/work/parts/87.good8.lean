/-! ===== the words of a step among the law's ===== -/
theorem goodIn_cons {big a : List Cond} {c : Cond} (hc : GoodIn big [c]) (ha : GoodIn big a) : GoodIn big (c :: a) := fun w h => (List.mem_cons.mp h).elim (fun e => hc w (by rw [e]; exact List.mem_cons_self)) (ha w)
theorem gq_isStep_c : GoodIn wsL_law [.code yL_isStep cL_isStep 10 (some .boolean)] := goodIn_sub (fun w hw => by rw [List.mem_singleton.mp hw]; exact List.mem_of_getElem? (i := 59) rfl) rfl
set_option maxRecDepth 20000 in
theorem gq_isStep_r1 : GoodIn wsL_law wsL_isStep_r1 := goodIn_r _ [60, 61, 62, 54, 63, 64, 65, 66, 67, 2, 68, 12, 69, 70, 71, 72, 73, 74, 75, 24, 76, 17, 77, 78] (by decide +kernel) (by decide +kernel)
set_option maxRecDepth 20000 in
theorem gq_isStep_r2 : GoodIn wsL_law wsL_isStep_r2 := goodIn_r _ [79, 80, 81, 11, 82, 31, 83, 84, 85, 86, 87, 88, 89, 90, 91, 92, 93, 94, 30, 95, 96, 97, 98, 99] (by decide +kernel) (by decide +kernel)
set_option maxRecDepth 20000 in
theorem gq_isStep_r3 : GoodIn wsL_law wsL_isStep_r3 := goodIn_r _ [100, 101, 102, 103, 104, 105, 106, 107, 108, 109, 110, 111, 112, 113, 114, 115, 116, 117, 118, 119, 120, 121, 122, 123] (by decide +kernel) (by decide +kernel)
set_option maxRecDepth 20000 in
theorem gq_isStep_r4 : GoodIn wsL_law wsL_isStep_r4 := goodIn_r _ [124, 125, 126, 16, 127, 128, 129, 39, 38, 10, 130, 131, 132, 133, 25, 26, 27, 7, 8, 28, 29, 32, 33, 34] (by decide +kernel) (by decide +kernel)
set_option maxRecDepth 20000 in
theorem gq_isStep_r5 : GoodIn wsL_law wsL_isStep_r5 := goodIn_r _ [134, 135, 136, 137, 138, 139, 140, 141, 142, 143, 144, 145, 146, 147, 148, 149, 150, 151, 152, 153, 154, 155, 156, 157] (by decide +kernel) (by decide +kernel)
set_option maxRecDepth 20000 in
theorem gq_isStep_r6 : GoodIn wsL_law wsL_isStep_r6 := goodIn_r _ [13, 158, 159, 160, 161, 162, 163, 164, 165, 166, 167, 168, 169, 170, 171, 172, 173, 174, 175, 176, 177, 178, 179, 180] (by decide +kernel) (by decide +kernel)
set_option maxRecDepth 20000 in
theorem gq_isStep_r7 : GoodIn wsL_law wsL_isStep_r7 := goodIn_r _ [181, 182, 183, 184, 185, 186, 187, 188, 189, 190, 191, 192, 193, 194, 195, 196, 197, 198, 199, 200, 201, 202, 203, 204] (by decide +kernel) (by decide +kernel)
set_option maxRecDepth 20000 in
theorem gq_isStep_r8 : GoodIn wsL_law wsL_isStep_r8 := goodIn_r _ [205, 206, 207, 208, 209, 210, 211, 212, 213, 214, 215, 216, 217, 218, 219, 220, 221, 222, 223, 224, 225, 226, 227, 228] (by decide +kernel) (by decide +kernel)
set_option maxRecDepth 20000 in
theorem gq_isStep_r9 : GoodIn wsL_law wsL_isStep_r9 := goodIn_r _ [229, 230, 231, 232, 233, 234, 235, 236, 237, 238, 239, 240, 241, 242, 243, 244, 245, 246, 247, 248, 249, 250, 251, 252] (by decide +kernel) (by decide +kernel)
set_option maxRecDepth 20000 in
theorem gq_isStep_r10 : GoodIn wsL_law wsL_isStep_r10 := goodIn_r _ [253, 254, 255, 256, 257, 258, 259, 260, 261, 262, 263, 264, 265, 266, 267, 268, 269, 270, 271, 272, 273, 274, 275, 276] (by decide +kernel) (by decide +kernel)
