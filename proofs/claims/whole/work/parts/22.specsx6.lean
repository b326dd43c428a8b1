/-! ===== the reference's texts ===== -/
/-- the text's length and the reader's place in it -/
def jx_tp (M : jx_T) : Prop := ∃ t q : Nat, t ≤ 60 ∧ q ≤ t ∧ jx_tl M = nI t ∧ jx_sp M = nI q
theorem jx_tp_lt {M : jx_T} (h : jx_tp M) (c : ¬ jx_tl M ≤ jx_sp M) : vp_in (jx_sp M) 60 := by
  obtain ⟨t, q, h1, h2, e1, e2⟩ := h
  rw [e1, e2] at c
  rw [e2]
  refine vp_in_nI ?_ (by decide)
  rcases Nat.lt_or_ge q t with z | z
  · omega
  · exact absurd (nI_le z (by omega)) c
/-- how many characters a number tells, at most n, and what is left of it -/
def lx_co : Nat → Int64 → Nat × Int64
  | 0, v => (0, v)
  | n + 1, v => if rX5_in (v &&& 255) 33 126 = 0 then (0, v) else ((lx_co n (v.toUInt64 >>> ((8 : Int32).toInt64.toUInt64 &&& Int64.toUInt64 63)).toInt64).1 + 1, (lx_co n (v.toUInt64 >>> ((8 : Int32).toInt64.toUInt64 &&& Int64.toUInt64 63)).toInt64).2)
theorem lx_co_le : ∀ (n : Nat) (v : Int64), (lx_co n v).1 ≤ n
  | 0, _ => Nat.le_refl _
  | n + 1, v => by
    unfold lx_co
    by_cases c : rX5_in (v &&& 255) 33 126 = 0
    · rw [if_pos c]; exact Nat.zero_le _
    · rw [if_neg c]; exact Nat.succ_le_succ (lx_co_le n _)
theorem lx_co_step {k : Nat} {v : Int64} {X : Nat × Int64} (h : k < 8) (c : ¬ rX5_in (v &&& 255) 33 126 = 0) (hE : ((lx_co (8 - k) v).1 + k, (lx_co (8 - k) v).2) = X) :
    ((lx_co (8 - (k + 1)) (v.toUInt64 >>> ((8 : Int32).toInt64.toUInt64 &&& Int64.toUInt64 63)).toInt64).1 + (k + 1), (lx_co (8 - (k + 1)) (v.toUInt64 >>> ((8 : Int32).toInt64.toUInt64 &&& Int64.toUInt64 63)).toInt64).2) = X := by
  rw [← hE, show 8 - k = (8 - (k + 1)) + 1 by omega]
  have e : lx_co ((8 - (k + 1)) + 1) v = ((lx_co (8 - (k + 1)) (v.toUInt64 >>> ((8 : Int32).toInt64.toUInt64 &&& Int64.toUInt64 63)).toInt64).1 + 1, (lx_co (8 - (k + 1)) (v.toUInt64 >>> ((8 : Int32).toInt64.toUInt64 &&& Int64.toUInt64 63)).toInt64).2) := if_neg c
  rw [e]
  ext
  · show _ + (k + 1) = _ + 1 + k
    omega
  · rfl
theorem lx_co_end {k : Nat} {v : Int64} {X : Nat × Int64} (h : k < 8) (c : rX5_in (v &&& 255) 33 126 = 0) (hE : ((lx_co (8 - k) v).1 + k, (lx_co (8 - k) v).2) = X) : (k, v) = X := by
  rw [← hE, show 8 - k = (8 - (k + 1)) + 1 by omega]
  have e : lx_co ((8 - (k + 1)) + 1) v = (0, v) := if_pos c
  rw [e, Nat.zero_add]
theorem lx_co_end8 {k : Nat} {v : Int64} {X : Nat × Int64} (h : k = 8) (hE : ((lx_co (8 - k) v).1 + k, (lx_co (8 - k) v).2) = X) : (k, v) = X := by
  subst h
  rw [← hE, Nat.sub_self]
  show _ = (0 + 8, v)
  rw [Nat.zero_add]
def lx_chars (v : Int64) : Int32 := if lg_cmp (lx_co 8 v).2 0 = 0 then nI (lx_co 8 v).1 else 0
theorem lx_chars_n (v : Int64) : ∃ n : Nat, n ≤ 8 ∧ lx_chars v = nI n := by
  unfold lx_chars
  by_cases c : lg_cmp (lx_co 8 v).2 0 = 0
  · rw [if_pos c]; exact ⟨_, lx_co_le 8 v, rfl⟩
  · rw [if_neg c]; exact ⟨0, by omega, rfl⟩
/-- one character of those that a number tells: the k-th of n -/
def lx_chr (v : Int64) (n : Int32) (k : Nat) : Int32 := ((v.toUInt64 >>> ((8 * (n - 1 - nI k)).toInt64.toUInt64 &&& Int64.toUInt64 63)).toInt64 &&& 255).toInt32
def lx_put (f : Nat → Int32) (t : Int32) (v : Int64) (n : Int32) : Nat → Nat → Int32
  | 0 => f
  | k + 1 => upd (lx_put f t v n k) (t + nI k).toNatClampNeg (lx_chr v n k)
theorem lx_put_in {M : jx_T} {n : Int32} {k : Nat} (ht : ∃ t : Nat, t ≤ 60 ∧ jx_tl M = nI t) (hn : ∃ c : Nat, c ≤ 8 ∧ n = nI c) (h : jx_tl M + n ≤ 60) (hk : k < n.toNatClampNeg) : vp_in (jx_tl M + nI k) 60 := by
  obtain ⟨t, h1, e1⟩ := ht
  obtain ⟨c, hc, e2⟩ := hn
  rw [e2, jk_cl (by omega)] at hk
  rw [e1, e2, nI_add, show (60 : Int32) = nI 60 from rfl, nI_leI (by omega) (by omega)] at h
  rw [e1, nI_add]
  exact vp_in_nI (by omega) (by decide)
