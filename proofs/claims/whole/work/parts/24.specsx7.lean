/-! ===== the reference's reader: its place stays in the text ===== -/
theorem jx_here_01 (M : jx_T) (u v : Int32) : rX5_isHere M u v = 0 ∨ rX5_isHere M u v = 1 := by
  unfold rX5_isHere
  by_cases c : jx_tl M ≤ jx_sp M
  · rw [if_pos c]; exact Or.inl rfl
  · rw [if_neg c]
    by_cases c2 : rX5_in (jx_tx M (jx_sp M).toNatClampNeg).toInt64 u.toInt64 v.toInt64 = 0
    · exact Or.inl (if_pos c2)
    · exact Or.inr (if_neg c2)
theorem jx_here_nar (M : jx_T) (u v : Int32) : narrow .boolean (.int (rX5_isHere M u v)) = .int (rX5_isHere M u v) := by
  rcases jx_here_01 M u v with e | e <;> rw [e] <;> rfl
theorem jx_here_lt {M : jx_T} {u v : Int32} (c : ¬ rX5_isHere M u v = 0) : ¬ jx_tl M ≤ jx_sp M := by
  intro q
  exact c (if_pos q)
theorem jx_here_in {M : jx_T} {u v : Int32} (ht : jx_tp M) (c : ¬ rX5_isHere M u v = 0) : vp_in (jx_sp M) 60 := jx_tp_lt ht (jx_here_lt c)
theorem jx_tp_adv {M M' : jx_T} (ht : jx_tp M) (c : ¬ jx_tl M ≤ jx_sp M) (e1 : jx_tl M' = jx_tl M) (e2 : jx_sp M' = jx_sp M + 1) : jx_tp M' := by
  obtain ⟨t, q, h1, h2, f1, f2⟩ := ht
  rw [f1, f2] at c
  have hlt : q < t := by
    rcases Nat.lt_or_ge q t with z | z
    · exact z
    · exact absurd (nI_le z (by omega)) c
  exact ⟨t, q + 1, h1, by omega, by rw [e1, f1], by rw [e2, f2, nI_1]⟩
theorem jx_tp_same {M M' : jx_T} (ht : jx_tp M) (e1 : jx_tl M' = jx_tl M) (e2 : jx_sp M' = jx_sp M) : jx_tp M' := by
  obtain ⟨t, q, h1, h2, f1, f2⟩ := ht
  exact ⟨t, q, h1, h2, by rw [e1, f1], by rw [e2, f2]⟩
theorem jx_tp_next {M : jx_T} {u v w : Int32} (ht : jx_tp M) (c : ¬ rX5_isHere M u v = 0) : jx_tp (jx_unu (jx_usp M (jx_sp M + 1)) w) := jx_tp_adv ht (jx_here_lt c) rfl rfl
theorem jx_here_in2 {M : jx_T} {u v u2 v2 w : Int32} (ht : jx_tp M) (c : ¬ rX5_isHere M u v = 0) (c2 : ¬ rX5_isHere (jx_unu (jx_usp M (jx_sp M + 1)) w) u2 v2 = 0) : vp_in (jx_sp M + 1) 60 := by
  have h := jx_here_in (jx_tp_next (w := w) ht c) c2
  have e : jx_sp (jx_unu (jx_usp M (jx_sp M + 1)) w) = jx_sp M + 1 := rfl
  rw [e] at h
  exact h
