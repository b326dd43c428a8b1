/-! ===== the reference: history, slots, single places ===== -/
def lx_hl (n : Nat) : Int32 := if n = 6 then nI 6 else nI (n + 1)
/-- the state goes into the history, of n rows -/
def lx_chg (M : jx_T) (n : Nat) : jx_T := jx_uhl (jx_uhi M (lx_hi (jx_al M) (jx_hi M) n)) (lx_hl n)
theorem lx_sh67 (f : Nat → Int32) {k : Nat} (hk : k < 1000) : upd (lx_sh f 67 k) (nI k).toNatClampNeg (lx_sh f 67 k (nI k + 67).toNatClampNeg) = lx_sh f 67 (k + 1) := by
  rw [show (nI k + 67 : Int32) = nI (k + 67) by rw [show (67 : Int32) = nI 67 from rfl, nI_add], jk_cl (by omega), jk_cl (by omega)]
  exact lx_sh_s f
theorem lx_sh67_in {k : Nat} (hk : k < 335) : vp_in (nI k + 67) 402 := by
  rw [show (67 : Int32) = nI 67 from rfl, nI_add]
  exact vp_in_nI (by omega) (by decide)
theorem lx_e67a {h : Int32} {k : Nat} (c : h = 6) : 67 * (h - 1) + nI k = nI (335 + k) := by
  rw [c, show (67 * (6 - 1) : Int32) = nI 335 from rfl, nI_add]
theorem lx_e67b {h : Int32} {n k : Nat} (c : h = nI n) : 67 * h + nI k = nI (67 * n + k) := by
  rw [c, show (67 : Int32) = nI 67 from rfl, pk_mul, nI_add]
theorem lx_i67a {h : Int32} {k : Nat} (c : h = 6) (hk : k < 67) : vp_in (67 * (h - 1) + nI k) 402 := by
  rw [lx_e67a c]
  exact vp_in_nI (by omega) (by decide)
theorem jk_n6 {h : Int32} {n : Nat} (hn : h = nI n) (hn6 : n ≤ 6) (c : ¬ h = 6) : n < 6 := by
  have : n ≠ 6 := fun q => c (by rw [hn, q]; rfl)
  omega
theorem lx_i67b {h : Int32} {n k : Nat} (hn : h = nI n) (hn6 : n ≤ 6) (c : ¬ h = 6) (hk : k < 67) : vp_in (67 * h + nI k) 402 := by
  have := jk_n6 hn hn6 c
  rw [lx_e67b hn]
  exact vp_in_nI (by omega) (by decide)
theorem lx_s67a (f g : Nat → Int32) {h : Int32} {k : Nat} (c : h = 6) (hk : k < 67) : upd (lx_cpo f g 0 335 k) (67 * (h - 1) + nI k).toNatClampNeg (f (nI k).toNatClampNeg) = lx_cpo f g 0 335 (k + 1) := by
  rw [lx_e67a c, jk_cl (by omega), jk_cl (by omega)]
  have := lx_cpo_s f g 0 335 k
  rw [Nat.zero_add] at this
  exact this
theorem lx_s67b (f g : Nat → Int32) {h : Int32} {n k : Nat} (hn : h = nI n) (hn6 : n ≤ 6) (hk : k < 67) : upd (lx_cpo f g 0 (67 * n) k) (67 * h + nI k).toNatClampNeg (f (nI k).toNatClampNeg) = lx_cpo f g 0 (67 * n) (k + 1) := by
  rw [lx_e67b hn, jk_cl (by omega), jk_cl (by omega)]
  have := lx_cpo_s f g 0 (67 * n) k
  rw [Nat.zero_add] at this
  exact this
theorem lx_chgA {M : jx_T} {n : Nat} (hn : jx_hl M = nI n) (hn6 : n ≤ 6) (c : jx_hl M = 6) : jx_uhl (jx_uhi M (lx_cpo (jx_al M) (lx_sh (jx_hi M) 67 335) 0 335 67)) (jx_hl M - 1 + 1) = lx_chg M n := by
  have h6 : n = 6 := by
    rw [hn, show (6 : Int32) = nI 6 from rfl, nI_eq (by omega) (by omega)] at c
    exact c
  subst h6
  unfold lx_chg lx_hi lx_hl
  rw [if_pos rfl, if_pos rfl, c]
  rfl
theorem lx_chgB {M : jx_T} {n : Nat} (hn : jx_hl M = nI n) (hn6 : n ≤ 6) (c : ¬ jx_hl M = 6) : jx_uhl (jx_uhi M (lx_cpo (jx_al M) (jx_hi M) 0 (67 * n) 67)) (jx_hl M + 1) = lx_chg M n := by
  have h6 := jk_n6 hn hn6 c
  unfold lx_chg lx_hi lx_hl
  rw [if_neg (by omega), if_neg (by omega), hn, nI_1]
theorem jx_disc01 {d : Int32} (h : ¬ rX5_isDisc d = 0) : d = 0 ∨ d = 1 := by
  unfold rX5_isDisc at h
  by_cases c : d = 0
  · exact Or.inl c
  · rw [if_neg c] at h
    by_cases c1 : d = 1
    · exact Or.inr c1
    · rw [if_neg c1] at h
      exact absurd rfl h
theorem jx_place {q : Int32} (h : ¬ rX5_isPlace q = 0) : ∃ n : Nat, n < 12 ∧ q = nI n := by
  have hh := (rX5_in_iff q 0 11).mp h
  have e0 : (0 : Int64).toInt = 0 := by decide
  have e5 : (11 : Int64).toInt = 11 := by decide
  rw [e0, e5] at hh
  exact ⟨q.toInt.toNat, by omega, Int32.toInt_inj.mp (by rw [nI_toInt (by omega)]; omega)⟩
theorem jx_cell (d : Int32) (n : Nat) (hd : d = 0 ∨ d = 1) : rX5_cell d (nI n) = nI (13 + 12 * d.toNatClampNeg + n) := by
  rcases hd with e | e
  · rw [e]
    show (13 + 12 * 0 : Int32) + nI n = nI (13 + 12 * 0 + n)
    rw [show (13 + 12 * 0 : Int32) = nI 13 from rfl, nI_add]
  · rw [e]
    show (13 + 12 * 1 : Int32) + nI n = nI (13 + 12 * 1 + n)
    rw [show (13 + 12 * 1 : Int32) = nI 25 from rfl, nI_add]
theorem jx_d1 {d : Int32} (hd : d = 0 ∨ d = 1) : d.toNatClampNeg ≤ 1 := by
  rcases hd with e | e <;> rw [e] <;> decide
theorem jx_cell_in {d : Int32} {n : Nat} (hd : d = 0 ∨ d = 1) (hn : n < 12) : vp_in (rX5_cell d (nI n)) 67 := by
  have := jx_d1 hd
  rw [jx_cell d n hd]
  exact vp_in_nI (by omega) (by decide)
theorem jx_cell_in2 {d q : Int32} (hd : ¬ rX5_isDisc d = 0) (hq : ¬ rX5_isPlace q = 0) : vp_in (rX5_cell d q) 67 := by
  obtain ⟨n, hn, e⟩ := jx_place hq
  rw [e]
  exact jx_cell_in (jx_disc01 hd) hn
theorem jx_set_in {M : jx_T} {i v : Int32} (h : ¬ rX5_isSetting M i v = 0) : vp_in i 67 := by
  unfold rX5_isSetting at h
  by_cases c0 : i = 0
  · rw [c0]; exact jk_inC (by decide +kernel)
  · rw [if_neg c0] at h
    by_cases c1 : i = 1
    · rw [c1]; exact jk_inC (by decide +kernel)
    · rw [if_neg c1] at h
      by_cases c2 : i = 2
      · rw [c2]; exact jk_inC (by decide +kernel)
      · rw [if_neg c2] at h
        by_cases c3 : i = 3
        · rw [c3]; exact jk_inC (by decide +kernel)
        · rw [if_neg c3] at h
          by_cases c4 : i = 4
          · rw [c4]; exact jk_inC (by decide +kernel)
          · rw [if_neg c4] at h
            exact absurd rfl h
theorem jx_in_nat {q : Int32} {hi : Int64} (h : ¬ rX5_in q.toInt64 0 hi = 0) (h9 : hi.toInt < 1000) : ∃ n : Nat, (n : Int) ≤ hi.toInt ∧ q = nI n := by
  have hh := (rX5_in_iff q 0 hi).mp h
  have e0 : (0 : Int64).toInt = 0 := by decide
  rw [e0] at hh
  exact ⟨q.toInt.toNat, by omega, Int32.toInt_inj.mp (by rw [nI_toInt (by omega)]; omega)⟩
theorem jx_jar_in {j w : Int32} (hj : ¬ rX5_isDisc j = 0) (hw : ¬ rX5_in w.toInt64 0 2 = 0) : vp_in (37 + 2 * w + j) 67 := by
  obtain ⟨n, hn, e⟩ := jx_in_nat hw (by decide)
  have e2 : (2 : Int64).toInt = 2 := by decide
  rw [e2] at hn
  rw [e, show (2 : Int32) = nI 2 from rfl, pk_mul, show (37 : Int32) = nI 37 from rfl, nI_add]
  rcases jx_disc01 hj with e1 | e1 <;> rw [e1]
  · rw [show (0 : Int32) = nI 0 from rfl, nI_add]
    exact vp_in_nI (by omega) (by decide)
  · rw [show (1 : Int32) = nI 1 from rfl, nI_add]
    exact vp_in_nI (by omega) (by decide)
theorem jx_spark_in {f : Nat → Int32} {ago w : Int32} (hk : jx_ok f) (h0 : ¬ ago < 0) (hw : ¬ rX5_in w.toInt64 0 2 = 0) (hl : ¬ f 12 ≤ ago) : vp_in (43 + 3 * (f 12 - 1 - ago) + w) 67 := by
  obtain ⟨n, hn, e⟩ := jx_in_nat hw (by decide)
  have e2 : (2 : Int64).toInt = 2 := by decide
  rw [e2] at hn
  obtain ⟨L, hL, eL⟩ := hk
  obtain ⟨a, ha, ea⟩ := nI_of h0
  rw [eL, ea] at hl
  have hlt : a < L := by
    rcases Nat.lt_or_ge a L with q | q
    · exact q
    · exact absurd (nI_le q ha) hl
  rw [e, eL, ea, show (1 : Int32) = nI 1 from rfl, pk_sub (by omega), pk_sub (by omega), show (3 : Int32) = nI 3 from rfl, pk_mul, show (43 : Int32) = nI 43 from rfl, nI_add, nI_add]
  exact vp_in_nI (by omega) (by decide)
theorem jx_in7 {w : Int32} (hw : ¬ rX5_in w.toInt64 0 7 = 0) : vp_in w 67 := by
  obtain ⟨n, hn, e⟩ := jx_in_nat hw (by decide)
  have e2 : (7 : Int64).toInt = 7 := by decide
  rw [e2] at hn
  rw [e]
  exact vp_in_nI (by omega) (by decide)
/-- a disc of the reference, place by place -/
def lx_wp (f : Nat → Int32) (d : Int32) : Nat → Nat → Int32
  | 0 => f
  | k + 1 => upd (upd (lx_wp f d k) 11 (lx_wp f d k 11 + lx_wp f d k (rX5_cell d (nI k)).toNatClampNeg)) (rX5_cell d (nI k)).toNatClampNeg 0
def lx_wn (f : Nat → Int32) (d : Int32) : Nat → Int32
  | 0 => 0
  | k + 1 => lx_wn f d k + (if lx_wp f d k (rX5_cell d (nI k)).toNatClampNeg = 0 then 0 else 1)
def lx_ds (f : Nat → Int32) (d : Int32) : Nat → Int32
  | 0 => 0
  | k + 1 => lx_ds f d k + f (rX5_cell d (nI k)).toNatClampNeg
def lx_da (f : Nat → Int32) (d : Int32) : Nat → Int32
  | 0 => 0
  | k + 1 => lx_da f d k + (if f (rX5_cell d (nI k)).toNatClampNeg ≤ 0 then 0 else 1)
def lx_db (f : Nat → Int32) (d : Int32) : Nat → Int32
  | 0 => 0
  | k + 1 => lx_db f d k + (if 0 ≤ f (rX5_cell d (nI k)).toNatClampNeg then 0 else 1)
def lx_dg (f : Nat → Int32) (d : Int32) : Nat → Int32
  | 0 => -99
  | k + 1 => if f (rX5_cell d (nI k)).toNatClampNeg ≤ lx_dg f d k then lx_dg f d k else f (rX5_cell d (nI k)).toNatClampNeg
def lx_dl (f : Nat → Int32) (d : Int32) : Nat → Int32
  | 0 => 99
  | k + 1 => if lx_dl f d k ≤ f (rX5_cell d (nI k)).toNatClampNeg then lx_dl f d k else f (rX5_cell d (nI k)).toNatClampNeg
/-- a slot's places -/
theorem lx_e67s {v : Int32} {k : Nat} (hv : v = 0 ∨ v = 1) : 67 * v + nI k = nI (67 * v.toNatClampNeg + k) := by
  rcases hv with e | e <;> rw [e]
  · show (67 * 0 : Int32) + nI k = nI (67 * 0 + k)
    rw [show (67 * 0 : Int32) = nI 0 from rfl, nI_add]
  · show (67 * 1 : Int32) + nI k = nI (67 * 1 + k)
    rw [show (67 * 1 : Int32) = nI 67 from rfl, nI_add]
theorem lx_i67s {v : Int32} {k : Nat} (hv : v = 0 ∨ v = 1) (hk : k < 67) : vp_in (67 * v + nI k) 134 := by
  have := jx_d1 hv
  rw [lx_e67s hv]
  exact vp_in_nI (by omega) (by decide)
theorem lx_s67s (f g : Nat → Int32) {v : Int32} {k : Nat} (hv : v = 0 ∨ v = 1) (hk : k < 67) : upd (lx_cpo f g 0 (67 * v.toNatClampNeg) k) (67 * v + nI k).toNatClampNeg (f (nI k).toNatClampNeg) = lx_cpo f g 0 (67 * v.toNatClampNeg) (k + 1) := by
  have := jx_d1 hv
  rw [lx_e67s hv, jk_cl (by omega), jk_cl (by omega)]
  have := lx_cpo_s f g 0 (67 * v.toNatClampNeg) k
  rw [Nat.zero_add] at this
  exact this
theorem lx_r67s (f g : Nat → Int32) {v : Int32} {k : Nat} (hv : v = 0 ∨ v = 1) (hk : k < 67) : upd (lx_cpo f g (67 * v.toNatClampNeg) 0 k) (nI k).toNatClampNeg (f (67 * v + nI k).toNatClampNeg) = lx_cpo f g (67 * v.toNatClampNeg) 0 (k + 1) := by
  have := jx_d1 hv
  rw [lx_e67s hv, jk_cl (by omega), jk_cl (by omega)]
  have := lx_cpo_s f g (67 * v.toNatClampNeg) 0 k
  rw [Nat.zero_add] at this
  exact this
theorem jx_v01 {v : Int32} (hv : v = 0 ∨ v = 1) : vp_in v 2 := by
  rcases hv with e | e <;> rw [e] <;> exact jk_inC (by decide +kernel)
/-- the history's last row comes back -/
theorem lx_e67u {h : Int32} {n k : Nat} (hn : h = nI n) (c : ¬ h = 0) : 67 * (h - 1) + nI k = nI (67 * (n - 1) + k) := by
  have hn0 : n ≠ 0 := fun q => c (by rw [hn, q]; rfl)
  rw [hn, show (1 : Int32) = nI 1 from rfl, pk_sub (by omega), show (67 : Int32) = nI 67 from rfl, pk_mul, nI_add]
theorem lx_i67u {h : Int32} {n k : Nat} (hn : h = nI n) (hn6 : n ≤ 6) (c : ¬ h = 0) (hk : k < 67) : vp_in (67 * (h - 1) + nI k) 402 := by
  have hn0 : n ≠ 0 := fun q => c (by rw [hn, q]; rfl)
  rw [lx_e67u hn c]
  exact vp_in_nI (by omega) (by decide)
theorem lx_s67u (f g : Nat → Int32) {h : Int32} {n k : Nat} (hn : h = nI n) (hn6 : n ≤ 6) (c : ¬ h = 0) (hk : k < 67) : upd (lx_cpo f g (67 * (n - 1)) 0 k) (nI k).toNatClampNeg (f (67 * (h - 1) + nI k).toNatClampNeg) = lx_cpo f g (67 * (n - 1)) 0 (k + 1) := by
  rw [lx_e67u hn c, jk_cl (by omega), jk_cl (by omega)]
  have := lx_cpo_s f g (67 * (n - 1)) 0 k
  rw [Nat.zero_add] at this
  exact this
