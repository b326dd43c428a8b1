/-! ===== the reference: what turns would bring ===== -/
def lx_dif (M : jx_T) : Nat → Int32
  | 0 => 0
  | k + 1 => if rX5_difference (lx_turn M (k + 1)) ≤ lx_dif M k then lx_dif M k else rX5_difference (lx_turn M (k + 1))
def lx_jmp (M : jx_T) : Nat → Int32
  | 0 => 0
  | k + 1 => lx_jmp M k + rX5_turned (lx_turn M k) 1
def lx_wid (M : jx_T) : Nat → Int32
  | 0 => 0
  | k + 1 => if rX5_difference (lx_char M (k + 1)) ≤ lx_wid M k then lx_wid M k else rX5_difference (lx_char M (k + 1))
theorem lx_ix1 (M : jx_T) (k : Nat) : sX5_turned (lx_turn M k) 1 = lx_turn M (k + 1) := rfl
theorem jk_geN {k N c : Nat} (hN : N = c) (hc : c < 2 ^ 31) (hk : k ≤ N) (h : nI c ≤ nI k) : k = N := by
  subst hN
  exact jk_ge hc hk h
theorem jk_ltN {k N c : Nat} (hN : N = c) (hc : c < 2 ^ 31) (hk : k ≤ N) (h : ¬ nI c ≤ nI k) : k < N := by
  subst hN
  exact jk_lt hc hk h
/-- the next spark's turn, up to 200, and the machine behind the question -/
def lx_n200 (M : jx_T) : Int32 × jx_T := lx_next (jx_al M 6) ((200 : Int32).toNatClampNeg + 1) (sX5_keeps M) 0
def lx_md : Nat → jx_T → Int32 × Int32 × jx_T
  | 0, M => (0, 0, M)
  | d + 1, M => if (if (lx_n200 (jx_ual M (upd (jx_al M) 1 (nI d)))).1 ≤ 200 then (lx_n200 (jx_ual M (upd (jx_al M) 1 (nI d)))).1 else (-1000006)) = -1000006
      then lx_md d (sX5_comesBack (lx_n200 (jx_ual M (upd (jx_al M) 1 (nI d)))).2) else (nI d, 1, sX5_comesBack (lx_n200 (jx_ual M (upd (jx_al M) 1 (nI d)))).2)
theorem jk_m1k {k : Nat} (h : k < 61) : nI (61 - k) + Int32.ofInt (-1) = nI (61 - (k + 1)) := by
  rw [show 61 - k = (61 - (k + 1)) + 1 by omega]
  exact pk_m1 _
theorem jk_md0 {k : Nat} (hk : k ≤ 61) (h : nI (61 - k) ≤ 0) : k = 61 := by
  rw [Int32.le_iff_toInt_le, nI_toInt (by omega), Int32.toInt_zero] at h
  omega
theorem jk_md1 {k : Nat} (hk : k ≤ 61) (h : ¬ nI (61 - k) ≤ 0) : k < 61 := by
  rcases Nat.lt_or_ge k 61 with q | q
  · exact q
  · have : k = 61 := by omega
    subst this
    exact absurd (Int32.le_refl _) h
theorem lx_md_ok0 {X : jx_T} {v : Int32} (h : jx_ok (jx_al X)) : jx_ok (jx_al (jx_ual X (upd (jx_al X) 1 v))) := h
theorem jx_ok_kb {M : jx_T} (h : jx_ok (jx_al M)) (X : Int32 × jx_T) (hX : jx_kp X.2 = jx_kp (sX5_keeps M)) : jx_ok (jx_al (sX5_comesBack X.2)) := by
  obtain ⟨n, h1, h2⟩ := h
  refine ⟨n, h1, ?_⟩
  show lx_cp (jx_kp X.2) (jx_al X.2) 67 12 = nI n
  rw [hX, ← h2]
  rfl
theorem jx_kp_ual (S : jx_T) (f : Nat → Int32) : jx_kp (jx_ual S f) = jx_kp S := rfl
theorem jx_eq_charges (M : jx_T) : sX5_charges M = sX5_leaks (sX5_takes_11 (sX5_takes_10 (sX5_takes_01 (sX5_takes_00 (sX5_joins_1 (sX5_joins_0 (sX5_discsTurn (jx_ual M (upd (jx_al M) 5 (jx_al M 5 + 1)))))))))) := rfl
theorem jx_kp_charges (M : jx_T) : jx_kp (sX5_charges M) = jx_kp M := by
  have h1 : ∀ X, jx_kp (sX5_leaks X) = jx_kp X := fun X => jx_kp_ual X _
  have h2 : ∀ X, jx_kp (sX5_takes_11 X) = jx_kp X := fun X => jx_kp_ual X _
  have h3 : ∀ X, jx_kp (sX5_takes_10 X) = jx_kp X := fun X => jx_kp_ual X _
  have h4 : ∀ X, jx_kp (sX5_takes_01 X) = jx_kp X := fun X => jx_kp_ual X _
  have h5 : ∀ X, jx_kp (sX5_takes_00 X) = jx_kp X := fun X => jx_kp_ual X _
  have h6 : ∀ X, jx_kp (sX5_joins_1 X) = jx_kp X := fun X => jx_kp_ual X _
  have h7 : ∀ X, jx_kp (sX5_joins_0 X) = jx_kp X := fun X => jx_kp_ual X _
  have h8 : ∀ X, jx_kp (sX5_discsTurn X) = jx_kp X := fun X => jx_kp_ual X _
  rw [jx_eq_charges, h1, h2, h3, h4, h5, h6, h7, h8, jx_kp_ual]
theorem jx_kp_ual2 (S : jx_T) (f : Nat → Int32) : jx_kp (jx_ual S f) = jx_kp S := rfl
theorem jx_kp_logs (M : jx_T) : jx_kp (sX5_logs M) = jx_kp M := by
  unfold sX5_logs
  by_cases c : (jx_al M) 12 = 8
  · rw [if_pos c]; rfl
  · rw [if_neg c]; rfl
theorem jx_kp_sparks (M : jx_T) : jx_kp (sX5_sparks M) = jx_kp M := by
  unfold sX5_sparks
  by_cases c : (10 * ((jx_al M) 2)) ≤ (rX5_difference M)
  · rw [if_pos c]
    exact (jx_kp_ual (sX5_logs M) _).trans (jx_kp_logs M)
  · rw [if_neg c]
theorem jx_kp_turns (M : jx_T) : jx_kp (sX5_turns M) = jx_kp M := (jx_kp_ual (sX5_sparks (sX5_charges M)) _).trans ((jx_kp_sparks (sX5_charges M)).trans (jx_kp_charges M))
theorem jx_kp_next (had : Int32) : ∀ (n : Nat) (M : jx_T) (i : Int32), jx_kp (lx_next had n M i).2 = jx_kp M
  | 0, _, _ => rfl
  | n + 1, M, i => by
    show jx_kp (if jx_al M 6 = had then lx_next had n (sX5_turns M) (i + 1) else (i, M)).2 = jx_kp M
    by_cases c : jx_al M 6 = had
    · rw [if_pos c, jx_kp_next had n, jx_kp_turns]
    · rw [if_neg c]
theorem lx_md_ok {X : jx_T} {v : Int32} (h : jx_ok (jx_al X)) : jx_ok (jx_al (sX5_comesBack (lx_n200 (jx_ual X (upd (jx_al X) 1 v))).2)) :=
  jx_ok_kb (M := jx_ual X (upd (jx_al X) 1 v)) h _ (jx_kp_next _ _ _ _)
theorem lx_md_step {k : Nat} {b : Int32} {X : jx_T} {Y : Int32 × Int32 × jx_T} (h : k < 61) (hb : b = 0) (hE : (if b = 0 then lx_md (61 - k) X else (nI (61 - k), b, X)) = Y) :
    (if (if (if (lx_n200 (jx_ual X (upd (jx_al X) 1 (nI (61 - (k + 1)))))).1 ≤ 200 then (lx_n200 (jx_ual X (upd (jx_al X) 1 (nI (61 - (k + 1)))))).1 else (-1000006)) = -1000006 then (0 : Int32) else 1) = 0
      then lx_md (61 - (k + 1)) (sX5_comesBack (lx_n200 (jx_ual X (upd (jx_al X) 1 (nI (61 - (k + 1)))))).2)
      else (nI (61 - (k + 1)), (if (if (lx_n200 (jx_ual X (upd (jx_al X) 1 (nI (61 - (k + 1)))))).1 ≤ 200 then (lx_n200 (jx_ual X (upd (jx_al X) 1 (nI (61 - (k + 1)))))).1 else (-1000006)) = -1000006 then (0 : Int32) else 1), sX5_comesBack (lx_n200 (jx_ual X (upd (jx_al X) 1 (nI (61 - (k + 1)))))).2)) = Y := by
  rw [← hE, if_pos hb, show 61 - k = (61 - (k + 1)) + 1 by omega]
  show _ = (if _ = -1000006 then _ else _)
  by_cases c : (if (lx_n200 (jx_ual X (upd (jx_al X) 1 (nI (61 - (k + 1)))))).1 ≤ 200 then (lx_n200 (jx_ual X (upd (jx_al X) 1 (nI (61 - (k + 1)))))).1 else (-1000006)) = -1000006
  · rw [if_pos c, if_pos c, if_pos rfl]
  · rw [if_neg c, if_neg c, if_neg (by decide)]
theorem lx_md_end {k : Nat} {b : Int32} {X : jx_T} {Y : Int32 × Int32 × jx_T} (h : k = 61) (hE : (if b = 0 then lx_md (61 - k) X else (nI (61 - k), b, X)) = Y) : (nI (61 - k), b, X) = Y := by
  subst h
  rw [Nat.sub_self] at hE ⊢
  by_cases c : b = 0
  · rw [if_pos c] at hE
    rw [← hE, c]
    rfl
  · rw [if_neg c] at hE
    exact hE
/-- bounds of a long that was an int -/
theorem jk_cmp_lt {x y : Int64} : lg_cmp x y < 0 ↔ x < y := lg_cmp_lt x y
theorem rX5_in_iff (x : Int32) (lo hi : Int64) : ¬ rX5_in x.toInt64 lo hi = 0 ↔ lo.toInt ≤ x.toInt ∧ x.toInt ≤ hi.toInt := by
  unfold rX5_in
  have e : x.toInt64.toInt = x.toInt := Int32.toInt_toInt64 x
  by_cases c1 : lg_cmp x.toInt64 lo < 0
  · rw [if_pos c1]
    have h1 := (lg_cmp_lt _ _).mp c1
    rw [Int64.lt_iff_toInt_lt, e] at h1
    constructor
    · intro h
      exact absurd rfl h
    · intro h
      omega
  · rw [if_neg c1]
    have h1 : ¬ x.toInt64 < lo := fun h => c1 ((lg_cmp_lt _ _).mpr h)
    rw [Int64.lt_iff_toInt_lt, e] at h1
    by_cases c2 : 0 < lg_cmp x.toInt64 hi
    · rw [if_pos c2]
      have h2 := (lg_cmp_gt _ _).mp c2
      rw [Int64.lt_iff_toInt_lt, e] at h2
      constructor
      · intro h
        exact absurd rfl h
      · intro h
        omega
    · rw [if_neg c2]
      have h2 : ¬ hi < x.toInt64 := fun h => c2 ((lg_cmp_gt _ _).mpr h)
      rw [Int64.lt_iff_toInt_lt, e] at h2
      constructor
      · intro _
        omega
      · intro _
        decide
theorem jk_addT {x y : Int32} (h1 : -2147483648 ≤ x.toInt + y.toInt) (h2 : x.toInt + y.toInt < 2147483648) : (x + y).toInt = x.toInt + y.toInt := by
  rw [Int32.toInt_add]
  exact Int.bmod_eq_of_le (by omega) (by omega)
theorem jk_subT {x y : Int32} (h1 : -2147483648 ≤ x.toInt - y.toInt) (h2 : x.toInt - y.toInt < 2147483648) : (x - y).toInt = x.toInt - y.toInt := by
  rw [Int32.toInt_sub]
  exact Int.bmod_eq_of_le (by omega) (by omega)
theorem jk_mulT {x y : Int32} (h1 : -2147483648 ≤ x.toInt * y.toInt) (h2 : x.toInt * y.toInt < 2147483648) : (x * y).toInt = x.toInt * y.toInt := by
  rw [Int32.toInt_mul]
  exact Int.bmod_eq_of_le (by omega) (by omega)
theorem jk_negT {x : Int32} (h1 : -2147483647 ≤ x.toInt) : (-x).toInt = -x.toInt := by
  have := x.toInt_lt
  rw [Int32.toInt_neg]
  exact Int.bmod_eq_of_le (by omega) (by omega)
theorem jx_told_in {w : Int32} (h : ¬ rX5_in w.toInt64 0 5 = 0) (h0 : ¬ w = 0) (h1 : ¬ w = 1) (h4 : ¬ w = 4) (h5 : ¬ w = 5) : vp_in (37 + w - 2) 67 := by
  have hh := (rX5_in_iff w 0 5).mp h
  have e0 : (0 : Int64).toInt = 0 := by decide
  have e5 : (5 : Int64).toInt = 5 := by decide
  rw [e0, e5] at hh
  have f0 : w.toInt ≠ 0 := lv_neT h0 rfl
  have f1 : w.toInt ≠ 1 := lv_neT h1 rfl
  have f4 : w.toInt ≠ 4 := lv_neT h4 rfl
  have f5 : w.toInt ≠ 5 := lv_neT h5 rfl
  have e37 : (37 : Int32).toInt = 37 := by decide
  have e2 : (2 : Int32).toInt = 2 := by decide
  refine vp_in_iff.mpr ?_
  have a1 : (37 + w).toInt = 37 + w.toInt := by rw [jk_addT (by omega) (by omega), e37]
  rw [jk_subT (by omega) (by omega), a1, e2]
  omega
