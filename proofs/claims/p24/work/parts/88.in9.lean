theorem jk_appin {a b : List Cond} {P : Cond → Prop} (ha : ∀ w ∈ a, P w) (hb : ∀ w ∈ b, P w) : ∀ w ∈ a ++ b, P w := fun w h => (List.mem_append.mp h).elim (ha w) (hb w)
theorem wsL_law_in : ∀ w ∈ wsL_law, w ∈ lw_tbl := jk_appin (jk_appin (jk_appin (jk_appin (jk_appin (jk_appin (jk_appin in_wsL_law_r1 (jk_appin in_wsL_law_r2 (jk_appin in_wsL_law_r3 (jk_appin in_wsL_law_r4 (jk_appin in_wsL_law_r5 (jk_appin in_wsL_law_r6 (jk_appin in_wsL_law_r7 (jk_appin in_wsL_law_r8 (jk_appin in_wsL_law_r9 (jk_appin in_wsL_law_r10 (jk_appin in_wsL_law_r11 (jk_appin in_wsL_law_r12 (jk_appin in_wsL_law_r13 (jk_appin in_wsL_law_r14 (jk_appin in_wsL_law_r15 (jk_appin in_wsL_law_r16 (jk_appin in_wsL_law_r17 (in_wsL_law_r18)))))))))))))))))) in_wsX40) in_wsX20) in_wsX10) in_wsX00) in_wsX30) (fun w h => absurd h List.not_mem_nil)
theorem inX0 : ∀ w ∈ wsX00, w ∈ lw_tbl := fun w h => wsL_law_in w (inlX0 w h)
theorem inX1 : ∀ w ∈ wsX10, w ∈ lw_tbl := fun w h => wsL_law_in w (inlX1 w h)
theorem inX2 : ∀ w ∈ wsX20, w ∈ lw_tbl := fun w h => wsL_law_in w (inlX2 w h)
theorem inX3 : ∀ w ∈ wsX30, w ∈ lw_tbl := fun w h => wsL_law_in w (inlX3 w h)
theorem inX4 : ∀ w ∈ wsX40, w ∈ lw_tbl := fun w h => wsL_law_in w (inlX4 w h)
theorem inX5 : ∀ w ∈ wsX50, w ∈ lw_tbl := by decide +kernel
