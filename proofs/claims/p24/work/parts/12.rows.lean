/-! ===== numbers and copies of rows ===== -/
def lx_cp (f g : Nat → Int32) (k : Nat) : Nat → Int32 := fun j => if j < k then f j else g j
theorem lx_cp_0 (f g : Nat → Int32) : lx_cp f g 0 = g := by
  funext j
  exact if_neg (by omega)
theorem jk_cl {k : Nat} (h : k < 2 ^ 31) : (nI k).toNatClampNeg = k := nI_clamp h
theorem lx_cp_s (f g : Nat → Int32) {k : Nat} (hk : k < 2 ^ 31) : upd (lx_cp f g k) (nI k).toNatClampNeg (f (nI k).toNatClampNeg) = lx_cp f g (k + 1) := by
  rw [jk_cl hk]
  funext j
  unfold upd lx_cp
  by_cases c : j = k
  · subst c
    rw [if_pos rfl, if_pos (by omega)]
  · rw [if_neg c]
    by_cases c2 : j < k
    · rw [if_pos c2, if_pos (by omega)]
    · rw [if_neg c2, if_neg (by omega)]
theorem jk_geN {k N c : Nat} (hN : N = c) (hc : c < 2 ^ 31) (hk : k ≤ N) (h : nI c ≤ nI k) : k = N := by
  subst hN
  exact jk_ge hc hk h
theorem jk_ltN {k N c : Nat} (hN : N = c) (hc : c < 2 ^ 31) (hk : k ≤ N) (h : ¬ nI c ≤ nI k) : k < N := by
  subst hN
  exact jk_lt hc hk h
theorem jk_subT {x y : Int32} (h1 : -2147483648 ≤ x.toInt - y.toInt) (h2 : x.toInt - y.toInt < 2147483648) : (x - y).toInt = x.toInt - y.toInt := by
  rw [Int32.toInt_sub]
  exact Int.bmod_eq_of_le (by omega) (by omega)
theorem jk_mulT {x y : Int32} (h1 : -2147483648 ≤ x.toInt * y.toInt) (h2 : x.toInt * y.toInt < 2147483648) : (x * y).toInt = x.toInt * y.toInt := by
  rw [Int32.toInt_mul]
  exact Int.bmod_eq_of_le (by omega) (by omega)
