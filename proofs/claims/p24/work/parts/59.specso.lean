/-! ===== widest gap, most damp ===== -/
def lc_wid (N : jm_T) : Nat → Int32
  | 0 => 0
  | k + 1 => if lc_wid N k < rX2_difference (sX2_turnAheadOfSpark (lp_ahead N k)) then rX2_difference (sX2_turnAheadOfSpark (lp_ahead N k)) else lc_wid N k
/-- the machine with its k-th damp from above -/
def lc_dp (N : jm_T) (k : Nat) : jm_T := jm_use N (upd (jm_se N) 1 (jz_hi 1 - nI k))
def lc_md (N : jm_T) : Nat → Nat → jm_T → Int32 × jm_T
  | 0, _, X => (-1000006, X)
  | n + 1, k, _ => if (lp_spark (200 : Int32).toNatClampNeg (lc_dp N k) 1).1 = -1000006 then lc_md N n (k + 1) (lp_spark (200 : Int32).toNatClampNeg (lc_dp N k) 1).2 else (jz_hi 1 - nI k, (lp_spark (200 : Int32).toNatClampNeg (lc_dp N k) 1).2)
theorem lc_md_61 {N : jm_T} {k : Nat} {X : jm_T} {Y : Int32 × jm_T} (h : k = 61) (hE : lc_md N (61 - k) k X = Y) : (-1000006, X) = Y := by
  subst h
  rw [← hE]
  rfl
theorem lc_md_a {N : jm_T} {k : Nat} {X : jm_T} {Y : Int32 × jm_T} (h : k < 61) (c : ¬ (lp_spark (200 : Int32).toNatClampNeg (lc_dp N k) 1).1 = -1000006) (hE : lc_md N (61 - k) k X = Y) : (jz_hi 1 - nI k, (lp_spark (200 : Int32).toNatClampNeg (lc_dp N k) 1).2) = Y := by
  rw [← hE, show 61 - k = (61 - (k + 1)) + 1 by omega, lc_md, if_neg c]
theorem lc_md_s {N : jm_T} {k : Nat} {X : jm_T} {Y : Int32 × jm_T} (h : k < 61) (c : (lp_spark (200 : Int32).toNatClampNeg (lc_dp N k) 1).1 = -1000006) (hE : lc_md N (61 - k) k X = Y) : lc_md N (61 - (k + 1)) (k + 1) (lp_spark (200 : Int32).toNatClampNeg (lc_dp N k) 1).2 = Y := by
  rw [← hE, show 61 - k = (61 - (k + 1)) + 1 by omega, lc_md, if_pos c]
theorem lc_md_to {k : Nat} (hk : k ≤ 61) : (jz_hi 1 - nI k).toInt = 60 - k := by
  have e : (jz_hi 1).toInt = 60 := by decide
  have e2 : (nI k).toInt = k := nI_toInt (by omega)
  rw [jk_subT (by omega) (by omega), e, e2]
theorem lc_md_ex {k : Nat} (hk : k ≤ 61) (h : jz_hi 1 - nI k < jz_lo 1) : k = 61 := by
  rw [Int32.lt_iff_toInt_lt, lc_md_to hk, show (jz_lo 1).toInt = 0 by decide] at h
  omega
theorem lc_md_in {k : Nat} (hk : k ≤ 61) (h : ¬ jz_hi 1 - nI k < jz_lo 1) : k < 61 := by
  rw [Int32.lt_iff_toInt_lt, lc_md_to hk, show (jz_lo 1).toInt = 0 by decide] at h
  omega
def lc_wg (N : jm_T) : Int32 := if jz_lo 2 ≤ (if jz_hi 2 < lc_wid N 200 / 10 then jz_hi 2 else lc_wid N 200 / 10) then (if jz_hi 2 < lc_wid N 200 / 10 then jz_hi 2 else lc_wid N 200 / 10) else (-1000006)
