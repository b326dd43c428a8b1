/-! ===== a turn, step by step ===== -/
theorem join0_eq {M : jm_T} {T : Nat} (hT : jm_tu M = nI T) (h6 : T < 1000000) : sX2_join_0 M = jm_uch M (upd (upd (jm_ch M) (sg T 2) (jm_ch M (sg T 2) + jnA (jm_ch M (sg T 2)) (jm_ch M (sg T 8)) ((jm_ch M (sg T 2) + jm_ch M (sg T 8)) / 2 + (jm_ch M (sg T 20) - jm_ch M (sg T 14)) * jm_se M 0 / 32))) (sg T 8) (jm_ch M (sg T 8) - jnA (jm_ch M (sg T 2)) (jm_ch M (sg T 8)) ((jm_ch M (sg T 2) + jm_ch M (sg T 8)) / 2 + (jm_ch M (sg T 20) - jm_ch M (sg T 14)) * jm_se M 0 / 32))) := by
  have e1 : (rX2_indexOf 0 2 (jm_tu M)).toNatClampNeg = sg T 2 := by rw [hT]; exact ix0 (p := 2) (by omega) h6
  have e2 : (rX2_indexOf 0 8 (jm_tu M)).toNatClampNeg = sg T 8 := by rw [hT]; exact ix0 (p := 8) (by omega) h6
  have e3 : (rX2_indexOf 1 2 (jm_tu M)).toNatClampNeg = sg T 14 := by rw [hT]; exact ix1 (p := 2) (by omega) h6
  have e4 : (rX2_indexOf 1 8 (jm_tu M)).toNatClampNeg = sg T 20 := by rw [hT]; exact ix1 (p := 8) (by omega) h6
  unfold sX2_join_0
  dsimp only
  rw [e1, e2, e3, e4]
  rfl
theorem join1_eq {M : jm_T} {T : Nat} (hT : jm_tu M = nI T) (h6 : T < 1000000) : sX2_join_1 M = jm_uch M (upd (upd (jm_ch M) (sg T 16) (jm_ch M (sg T 16) + jnA (jm_ch M (sg T 16)) (jm_ch M (sg T 22)) ((jm_ch M (sg T 16) + jm_ch M (sg T 22)) / 2 + (jm_ch M (sg T 10) - jm_ch M (sg T 4)) * jm_se M 0 / 32))) (sg T 22) (jm_ch M (sg T 22) - jnA (jm_ch M (sg T 16)) (jm_ch M (sg T 22)) ((jm_ch M (sg T 16) + jm_ch M (sg T 22)) / 2 + (jm_ch M (sg T 10) - jm_ch M (sg T 4)) * jm_se M 0 / 32))) := by
  have e1 : (rX2_indexOf 1 4 (jm_tu M)).toNatClampNeg = sg T 16 := by rw [hT]; exact ix1 (p := 4) (by omega) h6
  have e2 : (rX2_indexOf 1 10 (jm_tu M)).toNatClampNeg = sg T 22 := by rw [hT]; exact ix1 (p := 10) (by omega) h6
  have e3 : (rX2_indexOf 0 4 (jm_tu M)).toNatClampNeg = sg T 4 := by rw [hT]; exact ix0 (p := 4) (by omega) h6
  have e4 : (rX2_indexOf 0 10 (jm_tu M)).toNatClampNeg = sg T 10 := by rw [hT]; exact ix0 (p := 10) (by omega) h6
  unfold sX2_join_1
  dsimp only
  rw [e1, e2, e3, e4]
  rfl
theorem gather0_eq {M : jm_T} {T : Nat} (hT : jm_tu M = nI T) (h6 : T < 1000000) : sX2_gather_0 M = tkM (tkM M (sg T 0) 0) (sg T 12) 0 := by
  have e1 : (rX2_indexOf 0 0 (jm_tu M)).toNatClampNeg = sg T 0 := by rw [hT]; exact ix0 (p := 0) (by omega) h6
  have e2 : (rX2_indexOf 1 0 (jm_tu M)).toNatClampNeg = sg T 12 := by rw [hT]; exact ix1 (p := 0) (by omega) h6
  unfold sX2_gather_0
  dsimp only
  rw [e1, e2]
  rfl
theorem gather1_eq {M : jm_T} {T : Nat} (hT : jm_tu M = nI T) (h6 : T < 1000000) : sX2_gather_1 M = tkM (tkM M (sg T 6) 1) (sg T 18) 1 := by
  have e1 : (rX2_indexOf 0 6 (jm_tu M)).toNatClampNeg = sg T 6 := by rw [hT]; exact ix0 (p := 6) (by omega) h6
  have e2 : (rX2_indexOf 1 6 (jm_tu M)).toNatClampNeg = sg T 18 := by rw [hT]; exact ix1 (p := 6) (by omega) h6
  unfold sX2_gather_1
  dsimp only
  rw [e1, e2]
  rfl
def J0F (g : Nat → Int32) : Nat → Int32 := upd (upd g 15 (g 15 + jnB (g 15) (g 21) ((g 15 + g 21) / 2 + (g 33 - g 27) * g 0 / 32))) 21 (g 21 - jnB (g 15) (g 21) ((g 15 + g 21) / 2 + (g 33 - g 27) * g 0 / 32))
def J1F (g : Nat → Int32) : Nat → Int32 := upd (upd g 29 (g 29 + jnB (g 29) (g 35) ((g 29 + g 35) / 2 + (g 23 - g 17) * g 0 / 32))) 35 (g 35 - jnB (g 29) (g 35) ((g 29 + g 35) / 2 + (g 23 - g 17) * g 0 / 32))
theorem row_j0 (X : jx_T) : sX5_joins_0 X = jx_ual X (J0F (jx_al X)) := rfl
theorem row_j1 (X : jx_T) : sX5_joins_1 X = jx_ual X (J1F (jx_al X)) := rfl
theorem row_t00 (X : jx_T) : sX5_takes_00 X = jx_ual X (tkF (jx_al X) 0 0) := rfl
theorem row_t01 (X : jx_T) : sX5_takes_01 X = jx_ual X (tkF (jx_al X) 12 0) := rfl
theorem row_t10 (X : jx_T) : sX5_takes_10 X = jx_ual X (tkF (jx_al X) 6 1) := rfl
theorem row_t11 (X : jx_T) : sX5_takes_11 X = jx_ual X (tkF (jx_al X) 18 1) := rfl
theorem row_lk (X : jx_T) : sX5_leaks X = jx_ual X (lkF (lkF (lx_lk (jx_al X) 24) 0) 1) := by
  unfold sX5_leaks
  dsimp only
  generalize lx_lk (jx_al X) 24 = f2
  rfl
theorem row_al (X : jx_T) (f : Nat → Int32) : jx_al (jx_ual X f) = f := rfl
theorem st_j0 {T S : Nat} {M : jm_T} {g : Nat → Int32} (h : mrA T S M g) (h6 : T < 1000000) : mrA T S (sX2_join_0 M) (J0F g) := by
  rw [join0_eq h.1.1 h6]
  have a1 : g 15 = jm_ch M (sg T 2) := h.2.2.2.1 2 (by omega)
  have a2 : g 21 = jm_ch M (sg T 8) := h.2.2.2.1 8 (by omega)
  have a3 : g 27 = jm_ch M (sg T 14) := h.2.2.2.1 14 (by omega)
  have a4 : g 33 = jm_ch M (sg T 20) := h.2.2.2.1 20 (by omega)
  have a0 : g 0 = jm_se M 0 := h.2.1 0 (by omega)
  exact st_join h (cp := 2) (cq := 8) (by omega) (by omega) (by omega) (w' := (g 15 + g 21) / 2 + (g 33 - g 27) * g 0 / 32) (by rw [a1, a2, a3, a4, a0])
theorem st_j1 {T S : Nat} {M : jm_T} {g : Nat → Int32} (h : mrA T S M g) (h6 : T < 1000000) : mrA T S (sX2_join_1 M) (J1F g) := by
  rw [join1_eq h.1.1 h6]
  have a1 : g 29 = jm_ch M (sg T 16) := h.2.2.2.1 16 (by omega)
  have a2 : g 35 = jm_ch M (sg T 22) := h.2.2.2.1 22 (by omega)
  have a3 : g 17 = jm_ch M (sg T 4) := h.2.2.2.1 4 (by omega)
  have a4 : g 23 = jm_ch M (sg T 10) := h.2.2.2.1 10 (by omega)
  have a0 : g 0 = jm_se M 0 := h.2.1 0 (by omega)
  exact st_join h (cp := 16) (cq := 22) (by omega) (by omega) (by omega) (w' := (g 29 + g 35) / 2 + (g 23 - g 17) * g 0 / 32) (by rw [a1, a2, a3, a4, a0])
theorem st_g0 {T S : Nat} {M : jm_T} {g : Nat → Int32} (h : mrA T S M g) (h6 : T < 1000000) : mrA T S (sX2_gather_0 M) (tkF (tkF g 0 0) 12 0) := by
  rw [gather0_eq h.1.1 h6]
  exact st_take (st_take h (c := 0) (j := 0) (by omega) (by omega)) (c := 12) (j := 0) (by omega) (by omega)
theorem st_g1 {T S : Nat} {M : jm_T} {g : Nat → Int32} (h : mrA T S M g) (h6 : T < 1000000) : mrA T S (sX2_gather_1 M) (tkF (tkF g 6 1) 18 1) := by
  rw [gather1_eq h.1.1 h6]
  exact st_take (st_take h (c := 6) (j := 1) (by omega) (by omega)) (c := 18) (j := 1) (by omega) (by omega)
theorem ahead_eq (M : jm_T) : sX2_turnAheadOfSpark M = lkM (lkM (lp_lk (sX2_gather_1 (sX2_gather_0 (sX2_join_1 (sX2_join_0 (jm_utu M (jm_tu M + 1)))))) 24) 0) 1 := rfl
theorem charges_eq (X : jx_T) : jx_al (sX5_charges X) = lkF (lkF (lx_lk (tkF (tkF (tkF (tkF (J1F (J0F (jx_al (sX5_discsTurn (jx_ual jx_0 (upd (jx_al X) 5 (jx_al X 5 + 1))))))) 0 0) 12 0) 6 1) 18 1) 24) 0) 1 := by
  rw [jx_eq_charges, row_lk, row_al, row_t11, row_al, row_t10, row_al, row_t01, row_al, row_t00, row_al, row_j1, row_al, row_j0, row_al]
  rfl
theorem st_ahead {T S : Nat} {M : jm_T} {X : jx_T} (h : mrA T S M (jx_al X)) (h6 : T + 1 < 1000000) : mrA (T + 1) S (sX2_turnAheadOfSpark M) (jx_al (sX5_charges X)) := by
  rw [ahead_eq, charges_eq]
  exact st_leakj (st_leakj (st_leak (st_g1 (st_g0 (st_j1 (st_j0 (st_turn h) h6) h6) h6) h6)) (j := 0) (by omega)) (j := 1) (by omega)
/-! ===== a spark ===== -/
theorem dif_eq {T S : Nat} {M : jm_T} {X : jx_T} (h : mrA T S M (jx_al X)) : rX5_difference X = rX2_difference M := by
  have a0 : jx_al X 37 = jm_ja M 0 := (h.2.2.2.2.1 0 (by omega)).1
  have a1 : jx_al X 38 = jm_ja M 1 := (h.2.2.2.2.1 1 (by omega)).1
  unfold rX5_difference rX2_difference
  dsimp only
  rw [a0, a1]
  by_cases c : 0 ≤ jm_ja M 0 - jm_ja M 1
  · rw [if_pos c, if_pos c]
  · rw [if_neg c, if_neg c, Int32.zero_sub]
theorem dif_T {T S : Nat} {M : jm_T} {f : Nat → Int32} (h : mrA T S M f) : (rX2_difference M).toInt = max ((jm_ja M 0).toInt - (jm_ja M 1).toInt) ((jm_ja M 1).toInt - (jm_ja M 0).toInt) := by
  have r0 := h.2.2.2.2.2.2.2.2 0 (by omega)
  have r1 := h.2.2.2.2.2.2.2.2 1 (by omega)
  have hh := h.2.2.2.2.2.2.1.2.2.2.2
  have e : (jm_ja M 0 - jm_ja M 1).toInt = (jm_ja M 0).toInt - (jm_ja M 1).toInt := jk_subT (by omega) (by omega)
  show (if 0 ≤ jm_ja M 0 - jm_ja M 1 then jm_ja M 0 - jm_ja M 1 else 0 - (jm_ja M 0 - jm_ja M 1)).toInt = _
  by_cases c : 0 ≤ jm_ja M 0 - jm_ja M 1
  · rw [if_pos c, e]
    rw [Int32.le_iff_toInt_le, Int32.toInt_zero, e] at c
    omega
  · rw [if_neg c, jk_subT (by rw [Int32.toInt_zero, e]; omega) (by rw [Int32.toInt_zero, e]; omega), e, Int32.toInt_zero]
    rw [Int32.le_iff_toInt_le, Int32.toInt_zero, e] at c
    omega
theorem due_iff {T S : Nat} {M : jm_T} {X : jx_T} (h : mrA T S M (jx_al X)) : rX2_isSparkDue M = 0 ↔ ¬ 10 * jx_al X 2 ≤ rX5_difference X := by
  rw [dif_eq h, show jx_al X 2 = jm_se M 2 from h.2.1 2 (by omega)]
  unfold rX2_isSparkDue
  dsimp only
  by_cases c : rX2_difference M < 10 * jm_se M 2
  · rw [if_pos c]
    exact ⟨fun _ q => absurd c (Int32.not_lt.mpr q), fun _ => rfl⟩
  · rw [if_neg c]
    exact ⟨fun q => absurd q (by decide), fun q => absurd (Int32.not_lt.mp c) q⟩
theorem lg0 {S : Nat} (h : S < 1000000) : (rX2_logIndexOf (nI S)).toNatClampNeg = 3 * (S % 8) ∧ (rX2_logIndexOf (nI S) + 1).toNatClampNeg = 3 * (S % 8) + 1 ∧ (rX2_logIndexOf (nI S) + 2).toNatClampNeg = 3 * (S % 8) + 2 := by
  have e : (rX2_logIndexOf (nI S)).toInt = 3 * ((S : Int) % 8) := by rw [jk_lg_toInt, nI_toInt (by omega)]
  have e1 : (1 : Int32).toInt = 1 := by decide
  have e2 : (2 : Int32).toInt = 2 := by decide
  refine ⟨?_, ?_, ?_⟩
  · show (rX2_logIndexOf (nI S)).toInt.toNat = _
    rw [e]; omega
  · show (rX2_logIndexOf (nI S) + 1).toInt.toNat = _
    rw [jk_addT (by omega) (by omega), e, e1]; omega
  · show (rX2_logIndexOf (nI S) + 2).toInt.toNat = _
    rw [jk_addT (by omega) (by omega), e, e2]; omega
def jpN (a b s : Int32) : Int32 := (a + b) / 2 - (a - (a + b) / 2) * s / 100
theorem jump_eq {M : jm_T} {S : Nat} (hS : jm_sp M = nI S) (h6 : S < 1000000) : sX2_letJump M = jm_usp (jm_ulo (jm_uja M (upd (upd (jm_ja M) 0 (jpN (jm_ja M 0) (jm_ja M 1) (jm_se M 3))) 1 (jm_ja M 0 + jm_ja M 1 - jpN (jm_ja M 0) (jm_ja M 1) (jm_se M 3)))) (upd (upd (upd (jm_lo M) (3 * (S % 8)) (jm_tu M)) (3 * (S % 8) + 1) (jm_ja M 0)) (3 * (S % 8) + 2) (jm_ja M 1))) (jm_sp M + 1) := by
  obtain ⟨e0, e1, e2⟩ := lg0 h6
  unfold sX2_letJump
  dsimp only
  rw [hS, e0, e1, e2]
  rfl
theorem jp_Z {a b : Int} {H s q m : Int} (ha : -H ≤ a ∧ a ≤ H) (hb : -H ≤ b ∧ b ≤ H) (hd : 10 ≤ a - b ∨ 10 ≤ b - a) (hs : 0 ≤ s ∧ s ≤ 60) (hm : m = (a + b).tdiv 2) (hq : q = ((a - m) * s).tdiv 100) : (-H ≤ m - q ∧ m - q ≤ H) ∧ (-H ≤ a + b - (m - q) ∧ a + b - (m - q) ≤ H) ∧ (-6000 * H ≤ (a - m) * s ∧ (a - m) * s ≤ 6000 * H) := by
  obtain ⟨z1, z2⟩ := lk_Z (X := a - m) hs
  have hm1 : a + b - 1 ≤ 2 * m ∧ 2 * m ≤ a + b + 1 := by
    rcases Int.le_total 0 (a + b) with p | p
    · rw [Int.tdiv_eq_ediv_of_nonneg p] at hm
      omega
    · have h8 : (a + b).tdiv 2 = -((-(a + b)).tdiv 2) := by rw [Int.neg_tdiv, Int.neg_neg]
      rw [h8, Int.tdiv_eq_ediv_of_nonneg (by omega)] at hm
      omega
  rcases Int.le_total 0 (a - m) with p | p
  · have h9 := z1 p
    rw [Int.tdiv_eq_ediv_of_nonneg h9.1] at hq
    omega
  · have h9 := z2 p
    have h8 : ((a - m) * s).tdiv 100 = -((-((a - m) * s)).tdiv 100) := by rw [Int.neg_tdiv, Int.neg_neg]
    rw [h8, Int.tdiv_eq_ediv_of_nonneg (by omega)] at hq
    omega
theorem jpr_T {a b s : Int32} {H : Int} (hH : H ≤ 2000) (ha : -H ≤ a.toInt ∧ a.toInt ≤ H) (hb : -H ≤ b.toInt ∧ b.toInt ≤ H) (hd : 10 ≤ a.toInt - b.toInt ∨ 10 ≤ b.toInt - a.toInt) (hs : 0 ≤ s.toInt ∧ s.toInt ≤ 60) : (-H ≤ (jpN a b s).toInt ∧ (jpN a b s).toInt ≤ H) ∧ (-H ≤ (a + b - jpN a b s).toInt ∧ (a + b - jpN a b s).toInt ≤ H) := by
  have e1 : (a + b).toInt = a.toInt + b.toInt := jk_addT (by omega) (by omega)
  have e2 : ((a + b) / 2).toInt = (a.toInt + b.toInt).tdiv 2 := by
    rw [Int32.toInt_div, e1, show (2 : Int32).toInt = 2 by decide]
    refine Int.bmod_eq_of_le ?_ ?_
    all_goals
      rcases Int.le_total 0 (a.toInt + b.toInt) with p | p
      · rw [Int.tdiv_eq_ediv_of_nonneg p]
        omega
      · have h8 : (a.toInt + b.toInt).tdiv 2 = -((-(a.toInt + b.toInt)).tdiv 2) := by rw [Int.neg_tdiv, Int.neg_neg]
        rw [h8, Int.tdiv_eq_ediv_of_nonneg (by omega)]
        omega
  obtain ⟨g1, g2, g3⟩ := jp_Z (m := (a.toInt + b.toInt).tdiv 2) (q := ((a.toInt - (a.toInt + b.toInt).tdiv 2) * s.toInt).tdiv 100) ha hb hd hs rfl rfl
  generalize (a.toInt + b.toInt).tdiv 2 = m at e2 g1 g2 g3
  have hm : -4000 ≤ m ∧ m ≤ 4000 := by
    have := ((a + b) / 2).le_toInt
    have := ((a + b) / 2).toInt_lt
    have k1 : (a + b).toInt - 1 ≤ 2 * m ∧ 2 * m ≤ (a + b).toInt + 1 := by
      rw [Int32.toInt_div] at e2
      rw [← e2, e1, show (2 : Int32).toInt = 2 by decide]
      have hb2 : ((a.toInt + b.toInt).tdiv 2).bmod (2 ^ 32) = (a.toInt + b.toInt).tdiv 2 := by
        refine Int.bmod_eq_of_le ?_ ?_
        all_goals
          rcases Int.le_total 0 (a.toInt + b.toInt) with p | p
          · rw [Int.tdiv_eq_ediv_of_nonneg p]
            omega
          · have h8 : (a.toInt + b.toInt).tdiv 2 = -((-(a.toInt + b.toInt)).tdiv 2) := by rw [Int.neg_tdiv, Int.neg_neg]
            rw [h8, Int.tdiv_eq_ediv_of_nonneg (by omega)]
            omega
      rw [hb2]
      rcases Int.le_total 0 (a.toInt + b.toInt) with p | p
      · rw [Int.tdiv_eq_ediv_of_nonneg p]
        omega
      · have h8 : (a.toInt + b.toInt).tdiv 2 = -((-(a.toInt + b.toInt)).tdiv 2) := by rw [Int.neg_tdiv, Int.neg_neg]
        rw [h8, Int.tdiv_eq_ediv_of_nonneg (by omega)]
        omega
    omega
  have e3 : (a - (a + b) / 2).toInt = a.toInt - m := by rw [jk_subT (by omega) (by omega), e2]
  have e4 : ((a - (a + b) / 2) * s).toInt = (a.toInt - m) * s.toInt := by rw [jk_mulT (by rw [e3]; omega) (by rw [e3]; omega), e3]
  have e5 : ((a - (a + b) / 2) * s / 100).toInt = ((a.toInt - m) * s.toInt).tdiv 100 := by
    rw [Int32.toInt_div, e4, show (100 : Int32).toInt = 100 by decide]
    refine Int.bmod_eq_of_le ?_ ?_
    · omega
    · omega
  have e6 : (jpN a b s).toInt = m - ((a.toInt - m) * s.toInt).tdiv 100 := by
    unfold jpN
    rw [jk_subT (by rw [e2, e5]; omega) (by rw [e2, e5]; omega), e2, e5]
  rw [jk_subT (by rw [e1, e6]; omega) (by rw [e1, e6]; omega), e1, e6]
  exact ⟨g1, g2⟩
theorem st_log {lo f : Nat → Int32} {S : Nat} {X : jx_T} (hX : jx_al X = f) (h : mrl lo S f) (h6 : S < 1000000) (t a b : Int32) (ht : f 5 = t) (ha : f 37 = a) (hb : f 38 = b) : mrl (upd (upd (upd lo (3 * (S % 8)) t) (3 * (S % 8) + 1) a) (3 * (S % 8) + 2) b) (S + 1) (jx_al (sX5_logs X)) ∧ ∀ j, j < 43 → j ≠ 12 → jx_al (sX5_logs X) j = f j := by
  obtain ⟨h1, h2⟩ := h
  subst hX
  rcases Nat.lt_or_ge S 8 with c | c
  · have e8 : min S 8 = S := by omega
    rw [e8] at h1 h2
    rw [lx_logsN c h1, ht, ha, hb]
    refine ⟨⟨?_, ?_⟩, ?_⟩
    · rw [show min (S + 1) 8 = S + 1 by omega, row_al]
      exact pk_us
    · rw [show min (S + 1) 8 = S + 1 by omega]
      intro k hk w hw
      show upd (upd (upd (upd (jx_al X) (43 + 3 * S) t) (43 + 3 * S + 1) a) (43 + 3 * S + 2) b) 12 _ (43 + 3 * (S + 1 - 1 - k) + w) = upd (upd (upd lo (3 * (S % 8)) t) (3 * (S % 8) + 1) a) (3 * (S % 8) + 2) b (3 * ((S + 1 - 1 - k) % 8) + w)
      rw [pk_un (by omega)]
      by_cases e : k = 0
      · subst e
        rcases (show w = 0 ∨ w = 1 ∨ w = 2 by omega) with e | e | e <;> subst e
        · rw [pk_un (by omega), pk_un (by omega), show 43 + 3 * (S + 1 - 1 - 0) + 0 = 43 + 3 * S by omega, pk_us, pk_un (by omega), pk_un (by omega), show 3 * ((S + 1 - 1 - 0) % 8) + 0 = 3 * (S % 8) by omega, pk_us]
        · rw [pk_un (by omega), show 43 + 3 * (S + 1 - 1 - 0) + 1 = 43 + 3 * S + 1 by omega, pk_us, pk_un (by omega), show 3 * ((S + 1 - 1 - 0) % 8) + 1 = 3 * (S % 8) + 1 by omega, pk_us]
        · rw [show 43 + 3 * (S + 1 - 1 - 0) + 2 = 43 + 3 * S + 2 by omega, pk_us, show 3 * ((S + 1 - 1 - 0) % 8) + 2 = 3 * (S % 8) + 2 by omega, pk_us]
      · rw [pk_un (by omega), pk_un (by omega), pk_un (by omega), pk_un (by omega), pk_un (by omega), pk_un (by omega)]
        have := h2 (k - 1) (by omega) w hw
        rw [show S - 1 - (k - 1) = S + 1 - 1 - k by omega] at this
        exact this
    · intro j hj hj2
      show upd (upd (upd (upd (jx_al X) (43 + 3 * S) t) (43 + 3 * S + 1) a) (43 + 3 * S + 2) b) 12 _ j = _
      rw [pk_un hj2, pk_un (by omega), pk_un (by omega), pk_un (by omega)]
  · have e8 : min S 8 = 8 := by omega
    rw [e8] at h1 h2
    rw [lx_logs8 h1, ht, ha, hb]
    refine ⟨⟨?_, ?_⟩, ?_⟩
    · rw [show min (S + 1) 8 = 8 by omega, row_al]
      exact pk_us
    · rw [show min (S + 1) 8 = 8 by omega]
      intro k hk w hw
      show upd (upd (upd (upd (upd (lx_lg (jx_al X) 21) 12 7) 64 t) 65 a) 66 b) 12 8 (43 + 3 * (8 - 1 - k) + w) = upd (upd (upd lo (3 * (S % 8)) t) (3 * (S % 8) + 1) a) (3 * (S % 8) + 2) b (3 * ((S + 1 - 1 - k) % 8) + w)
      rw [pk_un (by omega)]
      by_cases e : k = 0
      · subst e
        rcases (show w = 0 ∨ w = 1 ∨ w = 2 by omega) with e | e | e <;> subst e
        · rw [pk_un (by omega), pk_un (by omega), show 43 + 3 * (8 - 1 - 0) + 0 = 64 by omega, pk_us, pk_un (by omega), pk_un (by omega), show 3 * ((S + 1 - 1 - 0) % 8) + 0 = 3 * (S % 8) by omega, pk_us]
        · rw [pk_un (by omega), show 43 + 3 * (8 - 1 - 0) + 1 = 65 by omega, pk_us, pk_un (by omega), show 3 * ((S + 1 - 1 - 0) % 8) + 1 = 3 * (S % 8) + 1 by omega, pk_us]
        · rw [show 43 + 3 * (8 - 1 - 0) + 2 = 66 by omega, pk_us, show 3 * ((S + 1 - 1 - 0) % 8) + 2 = 3 * (S % 8) + 2 by omega, pk_us]
      · rw [pk_un (by omega), pk_un (by omega), pk_un (by omega), pk_un (by omega), pk_un (by omega), pk_un (by omega), pk_un (by omega)]
        have h9 := h2 (k - 1) (by omega) w hw
        have e9 : lx_lg (jx_al X) 21 (43 + 3 * (8 - 1 - k) + w) = jx_al X (43 + 3 * (8 - 1 - k) + w + 3) := if_pos (by omega)
        rw [e9, show 43 + 3 * (8 - 1 - k) + w + 3 = 43 + 3 * (8 - 1 - (k - 1)) + w by omega, h9, show S - 1 - (k - 1) = S + 1 - 1 - k by omega]
    · intro j hj hj2
      show upd (upd (upd (upd (upd (lx_lg (jx_al X) 21) 12 7) 64 t) 65 a) 66 b) 12 8 j = _
      rw [pk_un hj2, pk_un (by omega), pk_un (by omega), pk_un (by omega), pk_un hj2]
      exact if_neg (by omega)
theorem st_spark {T S : Nat} {M : jm_T} {X : jx_T} (h : mrA T S M (jx_al X)) (hST : S + 1 ≤ T) (h6 : T < 1000000) (hd : ¬ rX2_isSparkDue M = 0) : mrA T (S + 1) (sX2_letJump M) (jx_al (sX5_sparks X)) := by
  have hd2 : 10 * jx_al X 2 ≤ rX5_difference X := Classical.byContradiction fun q => hd ((due_iff h).mpr q)
  have hdT := dif_T h
  have hdE := dif_eq h
  obtain ⟨h1, h2, h3, h4, h5, h6', h7, h8, h9⟩ := h
  have a0 : jx_al X 37 = jm_ja M 0 := (h5 0 (by omega)).1
  have a1 : jx_al X 38 = jm_ja M 1 := (h5 1 (by omega)).1
  have a3 : jx_al X 3 = jm_se M 3 := h2 3 (by omega)
  have a2 : jx_al X 2 = jm_se M 2 := h2 2 (by omega)
  obtain ⟨g1, g2⟩ := st_log (X := X) rfl h6' (by omega) (nI T) (jm_ja M 0) (jm_ja M 1) h3.1 a0 a1
  rw [jump_eq h1.2.1 (by omega), h1.1, h1.2.1, nI_1]
  have hs : jx_al (sX5_sparks X) = upd (upd (upd (jx_al (sX5_logs X)) 6 (nI (S + 1))) 37 (jpN (jm_ja M 0) (jm_ja M 1) (jm_se M 3))) 38 (jm_ja M 0 + jm_ja M 1 - jpN (jm_ja M 0) (jm_ja M 1) (jm_se M 3)) := by
    unfold sX5_sparks
    dsimp only
    rw [if_pos hd2, row_al, g2 37 (by omega) (by omega), g2 38 (by omega) (by omega), g2 3 (by omega) (by omega), g2 6 (by omega) (by omega), a0, a1, a3, h3.2.1, nI_1]
    rfl
  have hh := h7.2.2.2.2
  have hdiff : 10 ≤ (jm_ja M 0).toInt - (jm_ja M 1).toInt ∨ 10 ≤ (jm_ja M 1).toInt - (jm_ja M 0).toInt := by
    rw [hdE, a2, Int32.le_iff_toInt_le, hdT] at hd2
    have h10 : (10 : Int32).toInt = 10 := by decide
    have hg := h7.2.2.1
    have e10 : (10 * jm_se M 2).toInt = 10 * (jm_se M 2).toInt := by rw [jk_mulT (by rw [h10]; omega) (by rw [h10]; omega), h10]
    rw [e10] at hd2
    omega
  obtain ⟨r1, r2⟩ := jpr_T hh.2 (h9 0 (by omega)) (h9 1 (by omega)) hdiff h7.2.2.2.1
  rw [hs]
  generalize jpN (jm_ja M 0) (jm_ja M 1) (jm_se M 3) = n0 at r1 r2 ⊢
  refine ⟨⟨h1.1, rfl, hST⟩, ?_, ⟨?_, ?_, ?_, ?_, ?_⟩, ?_, ?_, mrl_off (mrl_off (mrl_off g1 (by omega) (by omega)) (by omega) (by omega)) (by omega) (by omega), h7, h8, ?_⟩
  · intro i hi
    rw [pk_un (by omega), pk_un (by omega), pk_un (by omega), g2 i (by omega) (by omega)]
    exact h2 i hi
  · rw [pk_un (by omega), pk_un (by omega), pk_un (by omega), g2 5 (by omega) (by omega)]; exact h3.1
  · rw [pk_un (by omega), pk_un (by omega), pk_us]
  · rw [pk_un (by omega), pk_un (by omega), pk_un (by omega), g2 9 (by omega) (by omega)]; exact h3.2.2.1
  · rw [pk_un (by omega), pk_un (by omega), pk_un (by omega), g2 10 (by omega) (by omega)]; exact h3.2.2.2.1
  · rw [pk_un (by omega), pk_un (by omega), pk_un (by omega), g2 11 (by omega) (by omega)]; exact h3.2.2.2.2
  · intro c hc
    rw [pk_un (by omega), pk_un (by omega), pk_un (by omega), g2 _ (by omega) (by omega)]
    exact h4 c hc
  · intro j hj
    refine ⟨?_, ?_, ?_⟩
    · rcases (show j = 0 ∨ j = 1 by omega) with e | e <;> subst e
      · show upd (upd (upd (jx_al (sX5_logs X)) 6 (nI (S + 1))) 37 n0) 38 (jm_ja M 0 + jm_ja M 1 - n0) 37 = upd (upd (jm_ja M) 0 n0) 1 (jm_ja M 0 + jm_ja M 1 - n0) 0
        rw [pk_un (by omega), pk_us, pk_un (by omega), pk_us]
      · show upd (upd (upd (jx_al (sX5_logs X)) 6 (nI (S + 1))) 37 n0) 38 (jm_ja M 0 + jm_ja M 1 - n0) 38 = upd (upd (jm_ja M) 0 n0) 1 (jm_ja M 0 + jm_ja M 1 - n0) 1
        rw [pk_us, pk_us]
    · rw [pk_un (by omega), pk_un (by omega), pk_un (by omega), g2 _ (by omega) (by omega)]
      exact (h5 j hj).2.1
    · rw [pk_un (by omega), pk_un (by omega), pk_un (by omega), g2 _ (by omega) (by omega)]
      exact (h5 j hj).2.2
  · intro j hj
    rcases (show j = 0 ∨ j = 1 by omega) with e | e <;> subst e
    · show -(jm_se M 4).toInt ≤ (upd (upd (jm_ja M) 0 n0) 1 (jm_ja M 0 + jm_ja M 1 - n0) 0).toInt ∧ (upd (upd (jm_ja M) 0 n0) 1 (jm_ja M 0 + jm_ja M 1 - n0) 0).toInt ≤ (jm_se M 4).toInt
      rw [pk_un (by omega), pk_us]
      exact r1
    · show -(jm_se M 4).toInt ≤ (upd (upd (jm_ja M) 0 n0) 1 (jm_ja M 0 + jm_ja M 1 - n0) 1).toInt ∧ (upd (upd (jm_ja M) 0 n0) 1 (jm_ja M 0 + jm_ja M 1 - n0) 1).toInt ≤ (jm_se M 4).toInt
      rw [pk_us]
      exact r2
