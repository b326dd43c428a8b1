/-! ===== numbers of loops ===== -/
theorem jk_ge {k N : Nat} (hN : N < 2 ^ 31) (hk : k ≤ N) (h : nI N ≤ nI k) : k = N := by
  rcases Nat.lt_or_ge k N with q | q
  · exact absurd h (nI_ge q hN)
  · omega
theorem jk_lt {k N : Nat} (hN : N < 2 ^ 31) (hk : k ≤ N) (h : ¬ nI N ≤ nI k) : k < N := by
  rcases Nat.lt_or_ge k N with q | q
  · exact q
  · exact absurd (nI_le q (by omega)) h
/-- a bound that is any int: as often as it says, if it is above 0 -/
theorem jk_bge {k : Nat} {x : Int32} (hk : k ≤ x.toNatClampNeg) (h : x ≤ nI k) : k = x.toNatClampNeg := by
  have h1 : (x.toInt.toNat : Int) = x.toInt ∨ x.toInt < 0 := by omega
  have hx : x.toNatClampNeg = x.toInt.toNat := rfl
  have hlt : x.toInt < 2 ^ 31 := x.toInt_lt
  rw [hx] at hk ⊢
  have hkk : (nI k).toInt = k := nI_toInt (by omega)
  rw [Int32.le_iff_toInt_le, hkk] at h
  omega
theorem jk_blt {k : Nat} {x : Int32} (hk : k ≤ x.toNatClampNeg) (h : ¬ x ≤ nI k) : k < x.toNatClampNeg := by
  have hx : x.toNatClampNeg = x.toInt.toNat := rfl
  have hlt : x.toInt < 2 ^ 31 := x.toInt_lt
  rw [hx] at hk ⊢
  have hkk : (nI k).toInt = k := nI_toInt (by omega)
  rw [Int32.le_iff_toInt_le, hkk] at h
  omega
theorem jk_sge {k : Nat} {x : Int32} (hx9 : x.toNatClampNeg < 1000000) (hk : k ≤ x.toNatClampNeg) (h : x < nI (k + 1)) : k = x.toNatClampNeg := by
  have hx : x.toNatClampNeg = x.toInt.toNat := rfl
  rw [hx] at hk hx9 ⊢
  have hkk : (nI (k + 1)).toInt = ((k + 1 : Nat) : Int) := nI_toInt (by omega)
  rw [Int32.lt_iff_toInt_lt, hkk] at h
  omega
theorem jk_slt {k : Nat} {x : Int32} (hx9 : x.toNatClampNeg < 1000000) (hk : k ≤ x.toNatClampNeg) (h : ¬ x < nI (k + 1)) : k < x.toNatClampNeg := by
  have hx : x.toNatClampNeg = x.toInt.toNat := rfl
  rw [hx] at hk hx9 ⊢
  have hkk : (nI (k + 1)).toInt = ((k + 1 : Nat) : Int) := nI_toInt (by omega)
  rw [Int32.lt_iff_toInt_lt, hkk] at h
  omega
/-- the remainder by 12 or 8 that is never below 0 -/
theorem jk_toInt_sub (x y : Int32) : (x - y).toInt = (x.toInt - y.toInt).bmod (2 ^ 32) := Int32.toInt_sub x y
theorem jk_rem_toInt (x y : Int32) (h0 : 0 < y.toInt) : (x - x / y * y).toInt = x.toInt.tmod y.toInt := by
  have hx1 : -2147483648 ≤ x.toInt := x.le_toInt
  have hx2 : x.toInt < 2147483648 := x.toInt_lt
  have hy2 : y.toInt < 2147483648 := y.toInt_lt
  have hd : (x / y).toInt = (x.toInt.tdiv y.toInt).bmod (2 ^ 32) := Int32.toInt_div x y
  have ha := Int.mul_tdiv_add_tmod x.toInt y.toInt
  have hm1 : (x.toInt.tmod y.toInt).natAbs < y.toInt.natAbs := by
    rw [Int.natAbs_tmod]
    exact Nat.mod_lt _ (by omega)
  rw [Int32.toInt_sub, Int32.toInt_mul, hd]
  have e1 : (x.toInt - ((x.toInt.tdiv y.toInt).bmod (2 ^ 32) * y.toInt).bmod (2 ^ 32)).bmod (2 ^ 32) = (x.toInt - x.toInt.tdiv y.toInt * y.toInt).bmod (2 ^ 32) := by
    rw [Int.bmod_mul_bmod, Int.sub_bmod_bmod]
  rw [e1]
  have e2 : x.toInt - x.toInt.tdiv y.toInt * y.toInt = x.toInt.tmod y.toInt := by
    rw [Int.mul_comm]
    omega
  rw [e2]
  exact Int.bmod_eq_of_le (by omega) (by omega)
theorem jk_xor_ge (x y : Int32) (h : 0 ≤ y.toInt) : 0 ≤ (x ^^^ y) ↔ 0 ≤ x.toInt := by
  rw [Int32.le_iff_toInt_le, Int32.toInt_zero]
  have e1 : (x ^^^ y).toInt = (x.toBitVec ^^^ y.toBitVec).toInt := rfl
  have e2 : x.toInt = x.toBitVec.toInt := rfl
  have e3 : y.toInt = y.toBitVec.toInt := rfl
  rw [e3] at h
  rw [e1, e2]
  have a1 := @BitVec.msb_eq_toInt 32 (x.toBitVec ^^^ y.toBitVec)
  have a2 := @BitVec.msb_eq_toInt 32 x.toBitVec
  have a3 := @BitVec.msb_eq_toInt 32 y.toBitVec
  rw [BitVec.msb_xor, a2, a3] at a1
  rw [decide_eq_false (by omega : ¬ y.toBitVec.toInt < 0), Bool.xor_false] at a1
  have a4 := decide_eq_decide.mp a1
  omega
theorem jk_fm (x y : Int32) (h0 : 0 < y.toInt) : (rJ9_floorMod_7cf53 x y).toInt = x.toInt % y.toInt := by
  have hr := jk_rem_toInt x y h0
  have hx1 : -2147483648 ≤ x.toInt := x.le_toInt
  have hx2 : x.toInt < 2147483648 := x.toInt_lt
  have hy2 : y.toInt < 2147483648 := y.toInt_lt
  have hm := Int.emod_nonneg x.toInt (show y.toInt ≠ 0 by omega)
  have hm2 := Int.emod_lt_of_pos x.toInt h0
  unfold rJ9_floorMod_7cf53
  by_cases c1 : 0 ≤ (x ^^^ y)
  · rw [if_pos c1, hr]
    have hx := (jk_xor_ge x y (by omega)).mp c1
    exact Int.tmod_eq_emod_of_nonneg hx
  · rw [if_neg c1]
    have hx : x.toInt < 0 := by
      rcases Int.lt_or_le x.toInt 0 with q | q
      · exact q
      · exact absurd ((jk_xor_ge x y (by omega)).mpr q) c1
    have ht : x.toInt.tmod y.toInt = x.toInt % y.toInt - ((if 0 ≤ x.toInt ∨ y.toInt ∣ x.toInt then 0 else y.toInt.natAbs : Nat) : Int) := Int.tmod_eq_emod
    by_cases c2 : (x - x / y * y) = 0
    · rw [if_pos c2, hr]
      have h3 : x.toInt.tmod y.toInt = 0 := by rw [← hr, c2]; rfl
      rw [h3]
      have hd : y.toInt ∣ x.toInt := Int.dvd_of_tmod_eq_zero h3
      exact (Int.emod_eq_zero_of_dvd hd).symm
    · rw [if_neg c2, Int32.toInt_add, hr]
      have h3 : ¬ x.toInt.tmod y.toInt = 0 := fun q => c2 (Int32.toInt_inj.mp (by rw [hr, q]; rfl))
      have hnd : ¬ y.toInt ∣ x.toInt := fun q => h3 (Int.tmod_eq_zero_of_dvd q)
      rw [if_neg (by rintro (q | q); omega; exact hnd q)] at ht
      rw [ht, show (y.toInt.natAbs : Int) = y.toInt by omega, Int.sub_add_cancel]
      exact Int.bmod_eq_of_le (by omega) (by omega)
theorem jk_12 : (12 : Int32).toInt = 12 := by decide
theorem jk_8 : (8 : Int32).toInt = 8 := by decide
theorem jk_ix_toInt (d p t : Int32) : 0 ≤ (rX2_indexOf d p t).toInt ∧ (rX2_indexOf d p t).toInt < 24 := by
  have a1 := jk_fm (p - t) 12 (by decide)
  have a2 := jk_fm (p + t) 12 (by decide)
  rw [jk_12] at a1 a2
  unfold rX2_indexOf
  by_cases c : d = 0
  · rw [if_pos c]
    show 0 ≤ (rJ9_floorMod_7cf53 (p - t) 12).toInt ∧ (rJ9_floorMod_7cf53 (p - t) 12).toInt < 24
    omega
  · rw [if_neg c]
    show 0 ≤ (12 + rJ9_floorMod_7cf53 (p + t) 12).toInt ∧ (12 + rJ9_floorMod_7cf53 (p + t) 12).toInt < 24
    rw [Int32.toInt_add, jk_12, Int.bmod_eq_of_le (by omega) (by omega)]
    omega
theorem jk_ix_in (d p t : Int32) : vp_in (rX2_indexOf d p t) 24 := vp_in_iff.mpr (jk_ix_toInt d p t)
theorem jk_lg_toInt (k : Int32) : (rX2_logIndexOf k).toInt = 3 * (k.toInt % 8) := by
  have a1 := jk_fm k 8 (by decide)
  rw [jk_8] at a1
  show (3 * rJ9_floorMod_7cf53 k 8).toInt = _
  have h3 : (3 : Int32).toInt = 3 := by decide
  rw [Int32.toInt_mul, h3, a1, Int.bmod_eq_of_le (by omega) (by omega)]
theorem jk_lg_in (k : Int32) : vp_in (rX2_logIndexOf k) 24 := vp_in_iff.mpr (by rw [jk_lg_toInt]; omega)
theorem jk_lg_in1 (k : Int32) : vp_in (rX2_logIndexOf k + 1) 24 := vp_in_iff.mpr (by
  have h3 : (1 : Int32).toInt = 1 := by decide
  rw [Int32.toInt_add, jk_lg_toInt, h3, Int.bmod_eq_of_le (by omega) (by omega)]; omega)
theorem jk_lg_in2 (k : Int32) : vp_in (rX2_logIndexOf k + 2) 24 := vp_in_iff.mpr (by
  have h3 : (2 : Int32).toInt = 2 := by decide
  rw [Int32.toInt_add, jk_lg_toInt, h3, Int.bmod_eq_of_le (by omega) (by omega)]; omega)
theorem jk_fi (d : Int32) : rX2_firstIndexOf d = nI 0 ∨ rX2_firstIndexOf d = nI 12 := by
  unfold rX2_firstIndexOf
  by_cases c : d = 0
  · rw [if_pos c]; exact Or.inl rfl
  · rw [if_neg c]; exact Or.inr rfl
theorem jk_fi_ix (d : Int32) {k : Nat} (h : k < 12) : vp_in (rX2_firstIndexOf d + nI k) 24 := by
  rcases jk_fi d with e | e <;> rw [e, nI_add] <;> exact vp_in_nI (by omega) (by decide)
theorem jk_fi_exit {d : Int32} {k : Nat} (hk : k ≤ 12) (h : rX2_firstIndexOf d + 12 ≤ rX2_firstIndexOf d + nI k) : k = 12 := by
  have e12 : (12 : Int32) = nI 12 := rfl
  rw [e12] at h
  rcases jk_fi d with e | e <;> rw [e, nI_add, nI_add] at h <;> have := (nI_leI (by omega) (by omega)).mp h <;> omega
theorem jk_fi_in {d : Int32} {k : Nat} (hk : k ≤ 12) (h : ¬ rX2_firstIndexOf d + 12 ≤ rX2_firstIndexOf d + nI k) : k < 12 := by
  have e12 : (12 : Int32) = nI 12 := rfl
  rw [e12] at h
  rcases Nat.lt_or_ge k 12 with q | q
  · exact q
  · have hk2 : k = 12 := by omega
    subst hk2
    exact absurd (Int32.le_refl _) h
/-! ===== loops over a disc: b is its first place, k places are done ===== -/
def lp_sum (f : Nat → Int32) (b : Int32) : Nat → Int32
  | 0 => 0
  | k + 1 => lp_sum f b k + f (b + nI k).toNatClampNeg
def lp_sgn (f : Nat → Int32) (b sg : Int32) : Nat → Int32
  | 0 => 0
  | k + 1 => if rJ6_signum_0f7a4 (f (b + nI k).toNatClampNeg) = sg then lp_sgn f b sg k + 1 else lp_sgn f b sg k
def lp_max (f : Nat → Int32) (b : Int32) : Nat → Int32
  | 0 => -99
  | k + 1 => if lp_max f b k < f (b + nI k).toNatClampNeg then f (b + nI k).toNatClampNeg else lp_max f b k
def lp_min (f : Nat → Int32) (b : Int32) : Nat → Int32
  | 0 => 99
  | k + 1 => if f (b + nI k).toNatClampNeg < lp_min f b k then f (b + nI k).toNatClampNeg else lp_min f b k
def lp_zero (f : Nat → Int32) (b : Int32) : Nat → Nat → Int32
  | 0 => f
  | k + 1 => upd (lp_zero f b k) (b + nI k).toNatClampNeg 0
def lp_lk (M : jm_T) : Nat → jm_T
  | 0 => M
  | k + 1 => jm_ulk (jm_uch (lp_lk M k) (upd (jm_ch (lp_lk M k)) (nI k).toNatClampNeg (jm_ch (lp_lk M k) (nI k).toNatClampNeg - jm_ch (lp_lk M k) (nI k).toNatClampNeg * jm_se (lp_lk M k) 1 / 100))) (jm_lk (lp_lk M k) + jm_ch (lp_lk M k) (nI k).toNatClampNeg * jm_se (lp_lk M k) 1 / 100)
