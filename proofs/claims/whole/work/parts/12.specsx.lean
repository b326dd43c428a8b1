/-! ===== the reference: copies and shifts of rows, loops ===== -/
/-- the spark log's length is a place of it -/
def jx_ok (f : Nat → Int32) : Prop := ∃ n : Nat, n ≤ 8 ∧ f 12 = nI n
def lx_cp (f g : Nat → Int32) (k : Nat) : Nat → Int32 := fun j => if j < k then f j else g j
theorem lx_cp_0 (f g : Nat → Int32) : lx_cp f g 0 = g := by
  funext j
  exact if_neg (by omega)
theorem jk_cl {k : Nat} (h : k < 2 ^ 31) : (nI k).toNatClampNeg = k := nI_clamp h
theorem lx_cp_s (f g : Nat → Int32) {k : Nat} (hk : k < 2 ^ 31) : upd (lx_cp f g k) (nI k).toNatClampNeg (f (nI k).toNatClampNeg) = lx_cp f g (k + 1) := by
  rw [jk_cl hk]
  funext j
  unfold upd lx_cp
  by_cases c : j = k
  · subst c
    rw [if_pos rfl, if_pos (by omega)]
  · rw [if_neg c]
    by_cases c2 : j < k
    · rw [if_pos c2, if_pos (by omega)]
    · rw [if_neg c2, if_neg (by omega)]
/-- the first k places have what stands d behind them -/
def lx_sh (f : Nat → Int32) (d k : Nat) : Nat → Int32 := fun j => if j < k then f (j + d) else f j
theorem lx_sh_0 (f : Nat → Int32) (d : Nat) : lx_sh f d 0 = f := by
  funext j
  exact if_neg (by omega)
theorem lx_sh_s (f : Nat → Int32) {d k : Nat} : upd (lx_sh f d k) k (lx_sh f d k (k + d)) = lx_sh f d (k + 1) := by
  funext j
  unfold upd lx_sh
  by_cases c : j = k
  · subst c
    rw [if_pos rfl, if_neg (by omega), if_pos (by omega)]
  · rw [if_neg c]
    by_cases c2 : j < k
    · rw [if_pos c2, if_pos (by omega)]
    · rw [if_neg c2, if_neg (by omega)]
/-- from the place o on, k places have those of f from its place b on -/
def lx_cpo (f g : Nat → Int32) (b o k : Nat) : Nat → Int32 := fun j => if o ≤ j ∧ j < o + k then f (b + (j - o)) else g j
theorem lx_cpo_0 (f g : Nat → Int32) (b o : Nat) : lx_cpo f g b o 0 = g := by
  funext j
  exact if_neg (by omega)
theorem lx_cpo_s (f g : Nat → Int32) (b o k : Nat) : upd (lx_cpo f g b o k) (o + k) (f (b + k)) = lx_cpo f g b o (k + 1) := by
  funext j
  unfold upd lx_cpo
  by_cases c : j = o + k
  · subst c
    rw [if_pos rfl, if_pos (by omega)]
    congr 1
    omega
  · rw [if_neg c]
    by_cases c2 : o ≤ j ∧ j < o + k
    · rw [if_pos c2, if_pos (by omega)]
    · rw [if_neg c2, if_neg (by omega)]
/-- the log moves: 21 places from 43 on have what stands 3 behind them -/
def lx_lg (f : Nat → Int32) (k : Nat) : Nat → Int32 := fun j => if 43 ≤ j ∧ j < 43 + k then f (j + 3) else f j
theorem lx_lg_0 (f : Nat → Int32) : lx_lg f 0 = f := by
  funext j
  exact if_neg (by omega)
theorem lx_lg_s (f : Nat → Int32) {k : Nat} (hk : k < 1000) : upd (lx_lg f k) (43 + nI k).toNatClampNeg (lx_lg f k (43 + nI k + 3).toNatClampNeg) = lx_lg f (k + 1) := by
  have e1 : (43 + nI k : Int32) = nI (43 + k) := by rw [show (43 : Int32) = nI 43 from rfl, nI_add]
  have e2 : (43 + nI k + 3 : Int32) = nI (43 + k + 3) := by rw [e1, show (3 : Int32) = nI 3 from rfl, nI_add]
  rw [e2, e1, jk_cl (by omega), jk_cl (by omega)]
  funext j
  unfold upd lx_lg
  by_cases c : j = 43 + k
  · subst c
    rw [if_pos rfl, if_neg (by omega), if_pos (by omega)]
  · rw [if_neg c]
    by_cases c2 : 43 ≤ j ∧ j < 43 + k
    · rw [if_pos c2, if_pos (by omega)]
    · rw [if_neg c2, if_neg (by omega)]
theorem lx_lg_in {k : Nat} (hk : k < 21) : vp_in (43 + nI k) 67 := by
  rw [show (43 : Int32) = nI 43 from rfl, nI_add]
  exact vp_in_nI (by omega) (by decide)
theorem lx_lg_in3 {k : Nat} (hk : k < 21) : vp_in (43 + nI k + 3) 67 := by
  rw [show (43 : Int32) = nI 43 from rfl, nI_add, show (3 : Int32) = nI 3 from rfl, nI_add]
  exact vp_in_nI (by omega) (by decide)
theorem lx_at8 {f : Nat → Int32} (h : f 12 = 8) : (43 + 3 * (lx_lg f 21 12 - 1) : Int32) = 64 := by
  have e : lx_lg f 21 12 = 8 := (if_neg (by omega)).trans h
  rw [e]
  rfl
theorem lx_ix {f : Nat → Int32} (hk : jx_ok f) (c : ¬ f 12 = 8) : vp_in (43 + 3 * f 12) 67 ∧ vp_in (43 + 3 * f 12 + 1) 67 ∧ vp_in (43 + 3 * f 12 + 2) 67 := by
  obtain ⟨n, hn, e⟩ := hk
  have h8 : n ≠ 8 := fun q => c (by rw [e, q]; rfl)
  have e1 : (43 + 3 * f 12 : Int32) = nI (43 + 3 * n) := by rw [e, show (3 : Int32) = nI 3 from rfl, pk_mul, show (43 : Int32) = nI 43 from rfl, nI_add]
  rw [e1, show (1 : Int32) = nI 1 from rfl, show (2 : Int32) = nI 2 from rfl, nI_add, nI_add]
  exact ⟨vp_in_nI (by omega) (by decide), vp_in_nI (by omega) (by decide), vp_in_nI (by omega) (by decide)⟩
/-- leaks of the sectors, one after the other -/
def lx_lk (f : Nat → Int32) : Nat → Nat → Int32
  | 0 => f
  | k + 1 => upd (upd (lx_lk f k) (nI (13 + k)).toNatClampNeg (lx_lk f k (nI (13 + k)).toNatClampNeg - lx_lk f k (nI (13 + k)).toNatClampNeg * lx_lk f k 1 / 100)) 9 ((upd (lx_lk f k) (nI (13 + k)).toNatClampNeg (lx_lk f k (nI (13 + k)).toNatClampNeg - lx_lk f k (nI (13 + k)).toNatClampNeg * lx_lk f k 1 / 100)) 9 + lx_lk f k (nI (13 + k)).toNatClampNeg * lx_lk f k 1 / 100)
/-- the sum of the sectors, from a start on -/
def lx_sum (f : Nat → Int32) (z : Int32) : Nat → Int32
  | 0 => z
  | k + 1 => lx_sum f z k + f (nI (13 + k)).toNatClampNeg
theorem jk_ge13 {k : Nat} (hk : k ≤ 24) (h : (37 : Int32) ≤ nI (13 + k)) : k = 24 := by
  have h2 : nI 37 ≤ nI (13 + k) := h
  have := (nI_leI (by omega) (by omega)).mp h2
  omega
theorem jk_lt13 {k : Nat} (hk : k ≤ 24) (h : ¬ (37 : Int32) ≤ nI (13 + k)) : k < 24 := by
  rcases Nat.lt_or_ge k 24 with q | q
  · exact q
  · exact absurd (show nI 37 ≤ nI (13 + k) from nI_le (by omega) (by omega)) h
/-- the history's rows: ahead of one more -/
def lx_hi (al hi : Nat → Int32) (n : Nat) : Nat → Int32 := if n = 6 then lx_cpo al (lx_sh hi 67 335) 0 335 67 else lx_cpo al hi 0 (67 * n) 67
