/-! ===== a text's faults, and a text run ===== -/
theorem ff_eq {P : jp_T} {X : jx_T} (h : rlp P X) (Q : jd_T) : ∃ (t q' : Nat) (a' b' c' d' : Int32) (q2 : Nat) (a2 b2 c2 d2 : Int32), t ≤ 60 ∧ jp_ln P = nI t ∧ jx_tl X = nI t ∧ (∀ j, j < t → jp_sg P j = jx_tx X j) ∧ lx_fl 61 (jx_usp X 0) = (pr_fault (jx_tx X) t 61 0, jx_ru X q' a' b' c' d') ∧ lc_ff P 61 (jd_uat Q 0) = (pr_fault (jx_tx X) t 61 0, jdq q2 a2 b2 c2 d2) := by
  obtain ⟨t, h1, h2, h3, h4, -⟩ := h
  obtain ⟨q', a', b', c', d', e⟩ := rp_fault h2 h1
  have eq : jd_uat Q 0 = jdq 0 (jd_de Q) (jd_di Q) (jd_pl Q) (jd_am Q) := rfl
  obtain ⟨f1, q2, a2, b2, c2, d2, f2⟩ := pp_ff h3 h1 61 0 (jd_de Q) (jd_di Q) (jd_pl Q) (jd_am Q) (by omega) (by omega)
  refine ⟨t, q', a', b', c', d', q2, a2, b2, c2, d2, h1, h3, h2, h4, e, ?_⟩
  rw [eq]
  rw [pr_fault_congr h4] at f1
  exact Prod.ext f1 f2
theorem rl_fault {P : jp_T} {X : jx_T} (h : rlp P X) (Q : jd_T) : rX4_fault Q P = (lx_fl 61 (jx_usp X 0)).1 ∧ xsm (lx_fl 61 (jx_usp X 0)).2 X ∧ jx_al (lx_fl 61 (jx_usp X 0)).2 = jx_al X := by
  obtain ⟨t, q', a', b', c', d', q2, a2, b2, c2, d2, -, -, -, -, e1, e2⟩ := ff_eq h Q
  unfold rX4_fault
  dsimp only
  rw [e1, e2]
  exact ⟨rfl, xsm_ru X q' a' b' c' d', rfl⟩
theorem rl_run {P : jp_T} {X : jx_T} {N : jm_T} (h : rlp P X) (m : mrB N (jx_al X)) (Q : jd_T) (nh : Nat) : (¬ (lc_ff P 61 (jd_uat Q 0)).1 = -1000006 ∧ ¬ (lx_fl 61 (jx_usp X 0)).1 = -1000006 ∧ xsm (lx_fl 61 (jx_usp X 0)).2 X ∧ jx_al (lx_fl 61 (jx_usp X 0)).2 = jx_al X) ∨ ((lc_ff P 61 (jd_uat Q 0)).1 = -1000006 ∧ (lx_fl 61 (jx_usp X 0)).1 = -1000006 ∧ jm_sp (lc_rl P 60 N (sX0_start (lc_ff P 61 (jd_uat Q 0)).2)).1 - jm_sp N = (lx_rn 61 (jx_usp (lx_chg (lx_fl 61 (jx_usp X 0)).2 nh) 0) 0).1 ∧ mrB (lc_rl P 60 N (sX0_start (lc_ff P 61 (jd_uat Q 0)).2)).1 (jx_al (lx_rn 61 (jx_usp (lx_chg (lx_fl 61 (jx_usp X 0)).2 nh) 0) 0).2) ∧ xsm (lx_rn 61 (jx_usp (lx_chg (lx_fl 61 (jx_usp X 0)).2 nh) 0) 0).2 (lx_chg X nh)) := by
  obtain ⟨t, q', a', b', c', d', q2, a2, b2, c2, d2, h60, ht, htx, hT, e1, e2⟩ := ff_eq h Q
  rw [e1, e2]
  dsimp only
  by_cases c : pr_fault (jx_tx X) t 61 0 = -1000006
  · have s1 : jx_usp (lx_chg (jx_ru X q' a' b' c' d') nh) 0 = jx_ru (lx_chg X nh) 0 a' b' c' d' := rfl
    have s2 : sX0_start (jdq q2 a2 b2 c2 d2) = jdq 0 a2 b2 c2 d2 := rfl
    rw [s1, s2]
    have htx' : jx_tl (lx_chg X nh) = nI t := htx
    have hT' : ∀ j, j < t → jp_sg P j = jx_tx (lx_chg X nh) j := hT
    have cf : pr_fault (jx_tx (lx_chg X nh)) t 61 0 = -1000006 := c
    have m' : mrB N (jx_al (lx_chg X nh)) := m
    generalize lx_chg X nh = A at htx' hT' cf m' ⊢
    obtain ⟨i1, i2, i3⟩ := rn_eq ht h60 61 60 0 N A 0 a2 b2 c2 d2 a' b' c' d' htx' hT' (by omega) cf (by omega) m'
    rw [Int32.zero_add] at i1
    exact Or.inr ⟨c, c, i1.symm, i2, i3⟩
  · exact Or.inl ⟨c, c, xsm_ru X q' a' b' c' d', rfl⟩
