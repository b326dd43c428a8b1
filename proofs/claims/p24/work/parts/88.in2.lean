/-! ===== words of the law among the tables ===== -/
set_option maxRecDepth 20000 in
theorem in_wsL_law_r17 : ∀ w ∈ wsL_law_r17, w ∈ lw_tbl := fun w h => (goodIn_p wsL_law_r17 [474, 478, 482, 491] (by decide +kernel) (by decide +kernel) w h).1
set_option maxRecDepth 20000 in
theorem in_wsL_law_r18_a : ∀ w ∈ ([Cond.code yL_isWell cL_isWell 5 (some .boolean), Cond.constant RL 106 (-1000006), Cond.methodLink RL 103 yX4_spark, Cond.instanceMethod yX4_spark, Cond.selects RX4 yX4_spark yX4_spark, Cond.code yX4_spark cX4_spark 3 (some .int), Cond.fieldLink RX4 159 "InfluenceJars$Machine" "sparkLog" "[I", Cond.methodLink RX4 162 yX2_logIndexOf, Cond.methodLink RL 119 yL_areAlike, Cond.static yL_areAlike] : List Cond), w ∈ lw_tbl := fun w h => (goodIn_p [Cond.code yL_isWell cL_isWell 5 (some .boolean), Cond.constant RL 106 (-1000006), Cond.methodLink RL 103 yX4_spark, Cond.instanceMethod yX4_spark, Cond.selects RX4 yX4_spark yX4_spark, Cond.code yX4_spark cX4_spark 3 (some .int), Cond.fieldLink RX4 159 "InfluenceJars$Machine" "sparkLog" "[I", Cond.methodLink RX4 162 yX2_logIndexOf, Cond.methodLink RL 119 yL_areAlike, Cond.static yL_areAlike] [514, 509] (by decide +kernel) (by decide +kernel) w h).1
theorem in_wsL_law_r18_b : Cond.code yL_areAlike cL_areAlike 6 (some .boolean) ∈ lw_tbl := List.mem_of_getElem? (i := 495) rfl
set_option maxRecDepth 20000 in
theorem in_wsL_law_r18_c : ∀ w ∈ ([Cond.methodLink RL 97 yX4_widestGap, Cond.instanceMethod yX4_widestGap, Cond.selects RX4 yX4_widestGap yX4_widestGap, Cond.code yX4_widestGap cX4_widestGap 3 (some .int), Cond.methodLink RX4 198 yX2_turnAheadOfSpark, Cond.methodLink RX4 201 yX2_difference, Cond.methodLink RL 100 yX4_mostDamp, Cond.instanceMethod yX4_mostDamp, Cond.selects RX4 yX4_mostDamp yX4_mostDamp, Cond.code yX4_mostDamp cX4_mostDamp 2 (some .int)] : List Cond), w ∈ lw_tbl := fun w h => (goodIn_p [Cond.methodLink RL 97 yX4_widestGap, Cond.instanceMethod yX4_widestGap, Cond.selects RX4 yX4_widestGap yX4_widestGap, Cond.code yX4_widestGap cX4_widestGap 3 (some .int), Cond.methodLink RX4 198 yX2_turnAheadOfSpark, Cond.methodLink RX4 201 yX2_difference, Cond.methodLink RL 100 yX4_mostDamp, Cond.instanceMethod yX4_mostDamp, Cond.selects RX4 yX4_mostDamp yX4_mostDamp, Cond.code yX4_mostDamp cX4_mostDamp 2 (some .int)] [499, 505] (by decide +kernel) (by decide +kernel) w h).1
theorem in_wsL_law_r18 : ∀ w ∈ wsL_law_r18, w ∈ lw_tbl := by
  intro w h
  have h : w ∈ ([Cond.code yL_isWell cL_isWell 5 (some .boolean), Cond.constant RL 106 (-1000006), Cond.methodLink RL 103 yX4_spark, Cond.instanceMethod yX4_spark, Cond.selects RX4 yX4_spark yX4_spark, Cond.code yX4_spark cX4_spark 3 (some .int), Cond.fieldLink RX4 159 "InfluenceJars$Machine" "sparkLog" "[I", Cond.methodLink RX4 162 yX2_logIndexOf, Cond.methodLink RL 119 yL_areAlike, Cond.static yL_areAlike] : List Cond) ++ Cond.code yL_areAlike cL_areAlike 6 (some .boolean) :: [Cond.methodLink RL 97 yX4_widestGap, Cond.instanceMethod yX4_widestGap, Cond.selects RX4 yX4_widestGap yX4_widestGap, Cond.code yX4_widestGap cX4_widestGap 3 (some .int), Cond.methodLink RX4 198 yX2_turnAheadOfSpark, Cond.methodLink RX4 201 yX2_difference, Cond.methodLink RL 100 yX4_mostDamp, Cond.instanceMethod yX4_mostDamp, Cond.selects RX4 yX4_mostDamp yX4_mostDamp, Cond.code yX4_mostDamp cX4_mostDamp 2 (some .int)] := h
  rcases List.mem_append.mp h with h | h
  · exact in_wsL_law_r18_a w h
  · rcases List.mem_cons.mp h with h | h
    · rw [h]
      exact in_wsL_law_r18_b
    · exact in_wsL_law_r18_c w h
set_option maxRecDepth 20000 in
theorem in_wsX40 : ∀ w ∈ wsX40, w ∈ lw_tbl := fun w h => (goodIn_p wsX40 [] (by decide +kernel) (by decide +kernel) w h).1
set_option maxRecDepth 20000 in
theorem in_wsX20 : ∀ w ∈ wsX20, w ∈ lw_tbl := fun w h => (goodIn_p wsX20 [] (by decide +kernel) (by decide +kernel) w h).1
set_option maxRecDepth 20000 in
theorem in_wsX10 : ∀ w ∈ wsX10, w ∈ lw_tbl := fun w h => (goodIn_p wsX10 [] (by decide +kernel) (by decide +kernel) w h).1
set_option maxRecDepth 20000 in
theorem in_wsX00 : ∀ w ∈ wsX00, w ∈ lw_tbl := fun w h => (goodIn_p wsX00 [] (by decide +kernel) (by decide +kernel) w h).1
set_option maxRecDepth 20000 in
theorem in_wsX30 : ∀ w ∈ wsX30, w ∈ lw_tbl := fun w h => (goodIn_p wsX30 [] (by decide +kernel) (by decide +kernel) w h).1
