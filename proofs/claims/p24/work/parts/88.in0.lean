/-! ===== words of the law among the tables ===== -/
set_option maxRecDepth 20000 in
theorem in_wsL_law_r1 : ∀ w ∈ wsL_law_r1, w ∈ lw_tbl := fun w h => (goodIn_p wsL_law_r1 [25, 28] (by decide +kernel) (by decide +kernel) w h).1
set_option maxRecDepth 20000 in
theorem in_wsL_law_r2 : ∀ w ∈ wsL_law_r2, w ∈ lw_tbl := fun w h => (goodIn_p wsL_law_r2 [33, 92, 111] (by decide +kernel) (by decide +kernel) w h).1
set_option maxRecDepth 20000 in
theorem in_wsL_law_r3_a : ∀ w ∈ ([Cond.code yX3_init cX3_init 1 none, Cond.methodLink RX3 3 objectInit, Cond.arrayClass .char, Cond.fieldLink RX3 9 "InfluenceJars$Pad" "signs" "[C", Cond.methodLink RL 108 yL_cell, Cond.static yL_cell, Cond.initialized RL, Cond.code yL_cell cL_cell 2 (some .int), Cond.constant RL 7 (2143544785), Cond.methodLink RL 112 yL_isStep, Cond.static yL_isStep] : List Cond), w ∈ lw_tbl := fun w h => (goodIn_p [Cond.code yX3_init cX3_init 1 none, Cond.methodLink RX3 3 objectInit, Cond.arrayClass .char, Cond.fieldLink RX3 9 "InfluenceJars$Pad" "signs" "[C", Cond.methodLink RL 108 yL_cell, Cond.static yL_cell, Cond.initialized RL, Cond.code yL_cell cL_cell 2 (some .int), Cond.constant RL 7 (2143544785), Cond.methodLink RL 112 yL_isStep, Cond.static yL_isStep] [117, 174] (by decide +kernel) (by decide +kernel) w h).1
theorem in_wsL_law_r3_b : Cond.code yL_isStep cL_isStep 10 (some .boolean) ∈ lw_tbl := List.mem_of_getElem? (i := 178) rfl
set_option maxRecDepth 20000 in
theorem in_wsL_law_r3_c : ∀ w ∈ ([Cond.constant RL 53 (-1000005), Cond.methodLink RL 43 yL_up, Cond.static yL_up, Cond.code yL_up cL_up 2 (some .int), Cond.constant RL 8 (2147483647), Cond.methodLink RL 46 yX4_count, Cond.instanceMethod yX4_count, Cond.selects RX4 yX4_count yX4_count, Cond.code yX4_count cX4_count 2 (some .int), Cond.fieldLink RX4 59 "InfluenceJars$Machine" "settings" "[I", Cond.fieldLink RX4 131 "InfluenceJars$Machine" "turns" "I", Cond.fieldLink RX4 93 "InfluenceJars$Machine" "sparks" "I"] : List Cond), w ∈ lw_tbl := fun w h => (goodIn_p [Cond.constant RL 53 (-1000005), Cond.methodLink RL 43 yL_up, Cond.static yL_up, Cond.code yL_up cL_up 2 (some .int), Cond.constant RL 8 (2147483647), Cond.methodLink RL 46 yX4_count, Cond.instanceMethod yX4_count, Cond.selects RX4 yX4_count yX4_count, Cond.code yX4_count cX4_count 2 (some .int), Cond.fieldLink RX4 59 "InfluenceJars$Machine" "settings" "[I", Cond.fieldLink RX4 131 "InfluenceJars$Machine" "turns" "I", Cond.fieldLink RX4 93 "InfluenceJars$Machine" "sparks" "I"] [181, 186] (by decide +kernel) (by decide +kernel) w h).1
theorem in_wsL_law_r3 : ∀ w ∈ wsL_law_r3, w ∈ lw_tbl := by
  intro w h
  have h : w ∈ ([Cond.code yX3_init cX3_init 1 none, Cond.methodLink RX3 3 objectInit, Cond.arrayClass .char, Cond.fieldLink RX3 9 "InfluenceJars$Pad" "signs" "[C", Cond.methodLink RL 108 yL_cell, Cond.static yL_cell, Cond.initialized RL, Cond.code yL_cell cL_cell 2 (some .int), Cond.constant RL 7 (2143544785), Cond.methodLink RL 112 yL_isStep, Cond.static yL_isStep] : List Cond) ++ Cond.code yL_isStep cL_isStep 10 (some .boolean) :: [Cond.constant RL 53 (-1000005), Cond.methodLink RL 43 yL_up, Cond.static yL_up, Cond.code yL_up cL_up 2 (some .int), Cond.constant RL 8 (2147483647), Cond.methodLink RL 46 yX4_count, Cond.instanceMethod yX4_count, Cond.selects RX4 yX4_count yX4_count, Cond.code yX4_count cX4_count 2 (some .int), Cond.fieldLink RX4 59 "InfluenceJars$Machine" "settings" "[I", Cond.fieldLink RX4 131 "InfluenceJars$Machine" "turns" "I", Cond.fieldLink RX4 93 "InfluenceJars$Machine" "sparks" "I"] := h
  rcases List.mem_append.mp h with h | h
  · exact in_wsL_law_r3_a w h
  · rcases List.mem_cons.mp h with h | h
    · rw [h]
      exact in_wsL_law_r3_b
    · exact in_wsL_law_r3_c w h
set_option maxRecDepth 20000 in
theorem in_wsL_law_r4 : ∀ w ∈ wsL_law_r4, w ∈ lw_tbl := fun w h => (goodIn_p wsL_law_r4 [190, 193, 197, 201] (by decide +kernel) (by decide +kernel) w h).1
set_option maxRecDepth 20000 in
theorem in_wsL_law_r5 : ∀ w ∈ wsL_law_r5, w ∈ lw_tbl := fun w h => (goodIn_p wsL_law_r5 [204, 209, 214, 222] (by decide +kernel) (by decide +kernel) w h).1
set_option maxRecDepth 20000 in
theorem in_wsL_law_r6 : ∀ w ∈ wsL_law_r6, w ∈ lw_tbl := fun w h => (goodIn_p wsL_law_r6 [225, 228, 233, 236, 241] (by decide +kernel) (by decide +kernel) w h).1
set_option maxRecDepth 20000 in
theorem in_wsL_law_r7 : ∀ w ∈ wsL_law_r7, w ∈ lw_tbl := fun w h => (goodIn_p wsL_law_r7 [244, 247, 255, 260, 264] (by decide +kernel) (by decide +kernel) w h).1
set_option maxRecDepth 20000 in
theorem in_wsL_law_r8 : ∀ w ∈ wsL_law_r8, w ∈ lw_tbl := fun w h => (goodIn_p wsL_law_r8 [268, 272, 275, 280, 285, 289] (by decide +kernel) (by decide +kernel) w h).1
