/-! ===== bounds ===== -/
theorem rgN {x : Int32} {n : Nat} (h0 : 0 ≤ x.toInt) (h1 : x.toInt < n) (hn : n < 1000000) : ∃ d, d < n ∧ x = nI d := ⟨x.toInt.toNat, by omega, Int32.toInt_inj.mp (by rw [nI_toInt (by omega)]; omega)⟩
theorem in0 (x : Int32) (lo hi : Int64) : rX5_in x.toInt64 lo hi = 0 ↔ ¬ (lo.toInt ≤ x.toInt ∧ x.toInt ≤ hi.toInt) := by
  rw [← rX5_in_iff, Decidable.not_not]
theorem two_or (x : Int32) : (∃ d, d < 2 ∧ x = nI d) ∨ (x.toInt < 0 ∨ 2 ≤ x.toInt) := by
  by_cases c : x.toInt < 0 ∨ 2 ≤ x.toInt
  · exact Or.inr c
  · exact Or.inl (rgN (by omega) (by omega) (by omega))
theorem twl_or (x : Int32) : (∃ d, d < 12 ∧ x = nI d) ∨ (x.toInt < 0 ∨ 12 ≤ x.toInt) := by
  by_cases c : x.toInt < 0 ∨ 12 ≤ x.toInt
  · exact Or.inr c
  · exact Or.inl (rgN (by omega) (by omega) (by omega))
theorem lt2i : (2 : Int32).toInt = 2 := by decide
theorem lt12i : (12 : Int32).toInt = 12 := by decide
theorem nod {d : Nat} (hd : d < 2) : rX4_isNoDisc (nI d) = 0 := by
  rcases (show d = 0 ∨ d = 1 by omega) with e | e <;> subst e <;> decide
theorem isd {d : Nat} (hd : d < 2) : ¬ rX5_isDisc (nI d) = 0 := by
  rcases (show d = 0 ∨ d = 1 by omega) with e | e <;> subst e <;> decide
theorem nod' {x : Int32} (h : x.toInt < 0 ∨ 2 ≤ x.toInt) : ¬ rX4_isNoDisc x = 0 := by
  unfold rX4_isNoDisc
  by_cases c : x < 0
  · rw [if_pos c]; decide
  · rw [if_neg c, if_neg]
    · decide
    · intro q
      rw [Int32.lt_iff_toInt_lt] at c q
      rw [Int32.toInt_zero] at c
      rw [lt2i] at q
      omega
theorem isd' {x : Int32} (h : x.toInt < 0 ∨ 2 ≤ x.toInt) : rX5_isDisc x = 0 := by
  unfold rX5_isDisc
  rw [if_neg, if_neg]
  · intro e
    rw [e] at h
    revert h
    decide
  · intro e
    rw [e] at h
    revert h
    decide
theorem npl {q : Nat} (hq : q < 12) : rX4_isNoPlace (nI q) = 0 := by
  unfold rX4_isNoPlace
  rw [if_neg, if_pos]
  · rw [Int32.lt_iff_toInt_lt, nI_toInt (by omega), lt12i]; omega
  · rw [Int32.lt_iff_toInt_lt, nI_toInt (by omega), Int32.toInt_zero]; omega
theorem npl' {x : Int32} (h : x.toInt < 0 ∨ 12 ≤ x.toInt) : ¬ rX4_isNoPlace x = 0 := by
  unfold rX4_isNoPlace
  by_cases c : x < 0
  · rw [if_pos c]; decide
  · rw [if_neg c, if_neg]
    · decide
    · intro q
      rw [Int32.lt_iff_toInt_lt] at c q
      rw [Int32.toInt_zero] at c
      rw [lt12i] at q
      omega
theorem l64_0 : (0 : Int64).toInt = 0 := by decide
theorem l64_11 : (11 : Int64).toInt = 11 := by decide
theorem ipl {q : Nat} (hq : q < 12) : ¬ rX5_isPlace (nI q) = 0 := by
  show ¬ rX5_in (nI q).toInt64 0 11 = 0
  rw [in0, nI_toInt (by omega), l64_0, l64_11]
  omega
theorem ipl' {x : Int32} (h : x.toInt < 0 ∨ 12 ≤ x.toInt) : rX5_isPlace x = 0 := by
  show rX5_in x.toInt64 0 11 = 0
  rw [in0, l64_0, l64_11]
  omega
/-! ===== simple questions ===== -/
theorem an_sector {T S : Nat} {N : jm_T} {X : jx_T} (h : mrF T S N (jx_al X)) (hT : T < 1000000) (vd vq : Int32) : rX4_sector N vd vq = rX5_sector X vd vq := by
  unfold rX4_sector rX5_sector
  dsimp only
  rcases two_or vd with ⟨d, hd, e⟩ | e
  · rw [e, if_pos (nod hd), if_neg (isd hd)]
    rcases twl_or vq with ⟨q, hq, e2⟩ | e2
    · rw [e2, if_pos (npl hq), if_neg (ipl hq), celld hd hq, h.1.2.2.2.1 _ (by omega), h.1.1.1, ixd hd hq hT]
    · rw [if_neg (npl' e2), if_pos (ipl' e2)]
  · rw [if_neg (nod' e), if_pos (isd' e)]
theorem an_disc {T S : Nat} {N : jm_T} {X : jx_T} (h : mrF T S N (jx_al X)) (vd vw : Int32) : rX4_disc N vd vw = rX5_disc X vd vw := by
  unfold rX4_disc rX5_disc
  dsimp only
  rcases two_or vd with ⟨d, hd, e⟩ | e
  · obtain ⟨d1, d2, d3, d4, d5⟩ := st_disc h.1 hd
    rw [e, if_pos (nod hd), if_neg (isd hd), d1, d2, d3, d4, d5]
  · rw [if_neg (nod' e), if_pos (isd' e)]
theorem an_jar {T S : Nat} {N : jm_T} {X : jx_T} (h : mrF T S N (jx_al X)) (vj vw : Int32) : rX4_jar N vj vw = rX5_jar X vj vw := by
  have hj := h.1.2.2.2.2.1
  unfold rX4_jar rX5_jar
  dsimp only
  rcases two_or vj with ⟨d, hd, e⟩ | e
  · have k1 : ¬ nI d < 0 := by rw [Int32.lt_iff_toInt_lt, nI_toInt (by omega), Int32.toInt_zero]; omega
    have k2 : nI d < 2 := by rw [Int32.lt_iff_toInt_lt, nI_toInt (by omega), lt2i]; omega
    rw [e, if_neg k1, if_pos k2, if_neg (isd hd)]
    by_cases c : 0 ≤ vw.toInt ∧ vw.toInt ≤ 2
    · obtain ⟨w, hw, ew⟩ := rgN (n := 3) c.1 (by omega) (by omega)
      have ci : ¬ rX5_in vw.toInt64 0 2 = 0 := by
        rw [in0, l64_0, show (2 : Int64).toInt = 2 by decide]
        omega
      rw [if_neg ci, ew, jk_cl (by omega), show (37 + 2 * nI w + nI d) = nI (37 + 2 * w + d) by rw [show (2 : Int32) = nI 2 from rfl, pk_mul, show (37 : Int32) = nI 37 from rfl, nI_add, nI_add], jk_cl (by omega)]
      rcases (show w = 0 ∨ w = 1 ∨ w = 2 by omega) with q | q | q <;> subst q
      · exact ((hj d hd).1).symm
      · exact ((hj d hd).2.1).symm
      · exact ((hj d hd).2.2).symm
    · have ci : rX5_in vw.toInt64 0 2 = 0 := by
        rw [in0, l64_0, show (2 : Int64).toInt = 2 by decide]
        exact c
      have n0 : ¬ vw = 0 := fun e => by rw [e] at c; revert c; decide
      have n1 : ¬ vw = 1 := fun e => by rw [e] at c; revert c; decide
      have n2 : ¬ vw = 2 := fun e => by rw [e] at c; revert c; decide
      rw [if_pos ci, if_neg n0, if_neg n1, if_neg n2]
  · have k : vj < 0 ∨ ¬ vj < 0 ∧ ¬ vj < 2 := by
      rw [Int32.lt_iff_toInt_lt, Int32.lt_iff_toInt_lt, Int32.toInt_zero, lt2i]
      omega
    rw [if_pos (isd' e)]
    rcases k with k | ⟨k1, k2⟩
    · rw [if_pos k]
    · rw [if_neg k1, if_neg k2]
theorem an_spark {T S : Nat} {N : jm_T} {X : jx_T} (h : mrF T S N (jx_al X)) (hT : T < 1000000) (va vw : Int32) : rX4_spark N va vw = rX5_spark X va vw := by
  have hS : S ≤ T := h.1.1.2.2
  obtain ⟨l1, l2⟩ := h.1.2.2.2.2.2.1
  unfold rX4_spark rX5_spark
  dsimp only
  by_cases c : va < 0
  · rw [if_pos c, if_pos c]
  · rw [if_neg c, if_neg c]
    obtain ⟨a, ha, ea⟩ := nI_of c
    by_cases c2 : 0 ≤ vw.toInt ∧ vw.toInt ≤ 2
    · obtain ⟨w, hw, ew⟩ := rgN (n := 3) c2.1 (by omega) (by omega)
      have ci : ¬ rX5_in vw.toInt64 0 2 = 0 := by
        rw [in0, l64_0, show (2 : Int64).toInt = 2 by decide]
        omega
      have k1 : ¬ vw < 0 := by rw [Int32.lt_iff_toInt_lt, Int32.toInt_zero]; omega
      have k2 : vw < 3 := by rw [Int32.lt_iff_toInt_lt, show (3 : Int32).toInt = 3 by decide]; omega
      have ta : va.toInt = a := by rw [ea, nI_toInt ha]
      have ts : (jm_sp N).toInt = S := by rw [h.1.1.2.1, nI_toInt (by omega)]
      have tl : (nI (min S 8)).toInt = (min S 8 : Nat) := nI_toInt (by omega)
      rw [if_neg ci, if_neg k1, if_pos k2, l1]
      by_cases c3 : min S 8 ≤ a
      · have k3 : nI (min S 8) ≤ va := by rw [Int32.le_iff_toInt_le, ta, tl]; omega
        rw [if_pos k3]
        by_cases c4 : 8 ≤ va
        · rw [if_pos c4]
        · rw [if_neg c4, if_neg]
          rw [Int32.le_iff_toInt_le, show (8 : Int32).toInt = 8 by decide, ta] at c4
          rw [Int32.lt_iff_toInt_lt, ta, ts]
          omega
      · have k3 : ¬ nI (min S 8) ≤ va := by rw [Int32.le_iff_toInt_le, ta, tl]; omega
        have k4 : ¬ 8 ≤ va := by rw [Int32.le_iff_toInt_le, ta, show (8 : Int32).toInt = 8 by decide]; omega
        have k5 : va < jm_sp N := by rw [Int32.lt_iff_toInt_lt, ta, ts]; omega
        rw [if_neg k3, if_neg k4, if_pos k5]
        have i4 : jm_sp N - 1 - va = nI (S - 1 - a) := by rw [h.1.1.2.1, ea, show (1 : Int32) = nI 1 from rfl, pk_sub (by omega), pk_sub (by omega)]
        have i5 : (43 + 3 * (nI (min S 8) - 1 - va) + vw).toNatClampNeg = 43 + 3 * (min S 8 - 1 - a) + w := by
          rw [ea, ew, show (1 : Int32) = nI 1 from rfl, pk_sub (by omega), pk_sub (by omega), show (3 : Int32) = nI 3 from rfl, pk_mul, show (43 : Int32) = nI 43 from rfl, nI_add, nI_add, jk_cl (by omega)]
        obtain ⟨g0, g1, g2⟩ := lg0 (S := S - 1 - a) (by omega)
        rw [i4, i5, l2 a (by omega) w hw, ew]
        rcases (show w = 0 ∨ w = 1 ∨ w = 2 by omega) with q | q | q <;> subst q
        · rw [show nI 0 = 0 from rfl, Int32.add_zero, g0, Nat.add_zero]
        · rw [show nI 1 = 1 from rfl, g1]
        · rw [show nI 2 = 2 from rfl, g2]
    · have ci : rX5_in vw.toInt64 0 2 = 0 := by
        rw [in0, l64_0, show (2 : Int64).toInt = 2 by decide]
        exact c2
      have k : vw < 0 ∨ ¬ vw < 0 ∧ ¬ vw < 3 := by
        rw [Int32.lt_iff_toInt_lt, Int32.lt_iff_toInt_lt, Int32.toInt_zero, show (3 : Int32).toInt = 3 by decide]
        omega
      rw [if_pos ci]
      rcases k with k | ⟨k1, k2⟩
      · rw [if_pos k]
      · rw [if_neg k1, if_neg k2]
theorem an_count {T S : Nat} {N : jm_T} {X : jx_T} (h : mrF T S N (jx_al X)) {Hs : jh_T} {P : jp_T} (hp : jp_ln P = jx_tl X) (hh : jh_sz Hs = jx_hl X) (vw : Int32) : rX4_count N Hs P vw = rX5_count X vw := by
  obtain ⟨⟨h1, h2, h3, h4, h5, h6, h7, h8, h9⟩, e7, e8⟩ := id h
  by_cases c : 0 ≤ vw.toInt ∧ vw.toInt ≤ 14
  · obtain ⟨w, hw, ew⟩ := rgN (n := 15) c.1 (by omega) (by omega)
    rw [ew]
    rcases (show w = 0 ∨ w = 1 ∨ w = 2 ∨ w = 3 ∨ w = 4 ∨ w = 5 ∨ w = 6 ∨ w = 7 ∨ w = 8 ∨ w = 9 ∨ w = 10 ∨ w = 11 ∨ w = 12 ∨ w = 13 ∨ w = 14 by omega) with q | q | q | q | q | q | q | q | q | q | q | q | q | q | q <;> subst q
    · exact (h2 0 (by omega)).symm
    · exact (h2 1 (by omega)).symm
    · exact (h2 2 (by omega)).symm
    · exact (h2 3 (by omega)).symm
    · exact (h2 4 (by omega)).symm
    · exact (mr_tu h.1).symm
    · exact (mr_sp h.1).symm
    · exact e7.symm
    · exact (sign_eq h.1).symm
    · exact (all_eq h.1).symm
    · exact h3.2.2.1.symm
    · exact h3.2.2.2.1.symm
    · exact h3.2.2.2.2.symm
    · exact hp
    · exact hh
  · have n5 : ¬ vw = 5 := fun e => by rw [e] at c; revert c; decide
    have n6 : ¬ vw = 6 := fun e => by rw [e] at c; revert c; decide
    have n7 : ¬ vw = 7 := fun e => by rw [e] at c; revert c; decide
    have n8 : ¬ vw = 8 := fun e => by rw [e] at c; revert c; decide
    have n9 : ¬ vw = 9 := fun e => by rw [e] at c; revert c; decide
    have n10 : ¬ vw = 10 := fun e => by rw [e] at c; revert c; decide
    have n11 : ¬ vw = 11 := fun e => by rw [e] at c; revert c; decide
    have n12 : ¬ vw = 12 := fun e => by rw [e] at c; revert c; decide
    have n13 : ¬ vw = 13 := fun e => by rw [e] at c; revert c; decide
    have n14 : ¬ vw = 14 := fun e => by rw [e] at c; revert c; decide
    have ci : rX5_in vw.toInt64 0 7 = 0 := by
      rw [in0, l64_0, show (7 : Int64).toInt = 7 by decide]
      omega
    have R : rX5_count X vw = -1000002 := by
      unfold rX5_count
      dsimp only
      rw [if_neg n8, if_neg n9, if_neg n10, if_neg n11, if_neg n12, if_neg n13, if_neg n14, if_pos ci]
    rw [R]
    unfold rX4_count
    dsimp only
    by_cases k : vw < 0
    · rw [if_pos k, if_neg n5, if_neg n6, if_neg n7, if_neg n8, if_neg n9, if_neg n10, if_neg n11, if_neg n12, if_neg n13, if_neg n14]
    · have k2 : 5 ≤ vw := by
        rw [Int32.lt_iff_toInt_lt, Int32.toInt_zero] at k
        rw [Int32.le_iff_toInt_le, show (5 : Int32).toInt = 5 by decide]
        omega
      rw [if_neg k, if_pos k2, if_neg n5, if_neg n6, if_neg n7, if_neg n8, if_neg n9, if_neg n10, if_neg n11, if_neg n12, if_neg n13, if_neg n14]
