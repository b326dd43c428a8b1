/-! ===== the reader's loops ===== -/
/-- more digits of a number x, n at most -/
def lc_nl (hi : Int32) (P : jp_T) : Nat → Int32 → jd_T → Int32 × jd_T
  | 0, x, Y => (x, Y)
  | n + 1, x, Y => if x ≤ 0 then (x, Y) else if rX0_digitAt Y P (jd_at Y) = -1 then (x, Y) else if 10 * x + rX0_digitAt Y P (jd_at Y) ≤ hi then lc_nl hi P n (10 * x + rX0_digitAt Y P (jd_at Y)) (jd_uat Y (jd_at Y + 1)) else (x, Y)
theorem lc_nl_60 {hi : Int32} {P : jp_T} {k : Nat} {x : Int32} {Y : jd_T} {Z : Int32 × jd_T} (h : k = 60) (hE : lc_nl hi P (60 - k) x Y = Z) : (x, Y) = Z := by
  subst h
  rw [← hE]
  rfl
theorem lc_nl_0 {hi : Int32} {P : jp_T} {k : Nat} {x : Int32} {Y : jd_T} {Z : Int32 × jd_T} (h : k < 60) (c : x ≤ 0) (hE : lc_nl hi P (60 - k) x Y = Z) : (x, Y) = Z := by
  rw [← hE, show 60 - k = (60 - (k + 1)) + 1 by omega, lc_nl, if_pos c]
theorem lc_nl_n {hi : Int32} {P : jp_T} {k : Nat} {x : Int32} {Y : jd_T} {Z : Int32 × jd_T} (h : k < 60) (c : ¬ x ≤ 0) (c2 : rX0_digitAt Y P (jd_at Y) = -1) (hE : lc_nl hi P (60 - k) x Y = Z) : (x, Y) = Z := by
  rw [← hE, show 60 - k = (60 - (k + 1)) + 1 by omega, lc_nl, if_neg c, if_pos c2]
theorem lc_nl_m {hi : Int32} {P : jp_T} {k : Nat} {x : Int32} {Y : jd_T} {Z : Int32 × jd_T} (h : k < 60) (c : ¬ x ≤ 0) (c2 : ¬ rX0_digitAt Y P (jd_at Y) = -1) (c3 : ¬ 10 * x + rX0_digitAt Y P (jd_at Y) ≤ hi) (hE : lc_nl hi P (60 - k) x Y = Z) : (x, Y) = Z := by
  rw [← hE, show 60 - k = (60 - (k + 1)) + 1 by omega, lc_nl, if_neg c, if_neg c2, if_neg c3]
theorem lc_nl_s {hi : Int32} {P : jp_T} {k : Nat} {x : Int32} {Y : jd_T} {Z : Int32 × jd_T} (h : k < 60) (c : ¬ x ≤ 0) (c2 : ¬ rX0_digitAt Y P (jd_at Y) = -1) (c3 : 10 * x + rX0_digitAt Y P (jd_at Y) ≤ hi) (hE : lc_nl hi P (60 - k) x Y = Z) : lc_nl hi P (60 - (k + 1)) (10 * x + rX0_digitAt Y P (jd_at Y)) (jd_uat Y (jd_at Y + 1)) = Z := by
  rw [← hE, show 60 - k = (60 - (k + 1)) + 1 by omega, lc_nl, if_neg c, if_neg c2, if_pos c3]
