/-! ===== the reference: loops of turns ===== -/
theorem jx_12_78 (S : jx_T) (v w : Int32) : jx_al (jx_ual S (upd (upd (jx_al S) 7 v) 8 w)) 12 = jx_al S 12 := rfl
theorem jx_12_turns (M : jx_T) : jx_al (sX5_turns M) 12 = jx_al (sX5_sparks (sX5_charges M)) 12 := jx_12_78 (sX5_sparks (sX5_charges M)) _ _
theorem jx_ok_turns {M : jx_T} (h : jx_ok (jx_al M)) : jx_ok (jx_al (sX5_turns M)) := by
  obtain ⟨n, h1, h2⟩ := jx_ok_sparks (jx_ok_charges h)
  exact ⟨n, h1, (jx_12_turns M).trans h2⟩
def lx_turn (M : jx_T) : Nat → jx_T
  | 0 => M
  | k + 1 => sX5_turns (lx_turn M k)
def lx_char (M : jx_T) : Nat → jx_T
  | 0 => M
  | k + 1 => sX5_charges (lx_char M k)
theorem jx_ok_turn {M : jx_T} (h : jx_ok (jx_al M)) : ∀ k : Nat, jx_ok (jx_al (lx_turn M k))
  | 0 => h
  | k + 1 => jx_ok_turns (jx_ok_turn h k)
/-- turns while no spark jumps, n more at most; i are done -/
def lx_next (had : Int32) : Nat → jx_T → Int32 → Int32 × jx_T
  | 0, M, i => (i, M)
  | n + 1, M, i => if jx_al M 6 = had then lx_next had n (sX5_turns M) (i + 1) else (i, M)
theorem lx_next_step {N k : Nat} {had : Int32} {M : jx_T} {X : Int32 × jx_T} (h : k < N) (c : jx_al (lx_turn M k) 6 = had) (hE : lx_next had (N - k) (lx_turn M k) (nI k) = X) : lx_next had (N - (k + 1)) (lx_turn M (k + 1)) (nI (k + 1)) = X := by
  rw [← hE, show N - k = (N - (k + 1)) + 1 by omega]
  show _ = (if jx_al (lx_turn M k) 6 = had then _ else _)
  rw [if_pos c, nI_1]
  rfl
theorem lx_next_end {N k : Nat} {had : Int32} {M : jx_T} {X : Int32 × jx_T} (h : k < N) (c : ¬ jx_al (lx_turn M k) 6 = had) (hE : lx_next had (N - k) (lx_turn M k) (nI k) = X) : (nI k, lx_turn M k) = X := by
  rw [← hE, show N - k = (N - (k + 1)) + 1 by omega]
  show _ = (if jx_al (lx_turn M k) 6 = had then _ else _)
  rw [if_neg c]
theorem jk_sgt {k : Nat} {x : Int32} (hx0 : 0 ≤ x) (hx9 : x.toNatClampNeg < 1000000) (hk : k ≤ x.toNatClampNeg + 1) (h : x < nI k) : k = x.toNatClampNeg + 1 := by
  have hx : x.toNatClampNeg = x.toInt.toNat := rfl
  rw [Int32.le_iff_toInt_le, Int32.toInt_zero] at hx0
  rw [hx] at hk hx9 ⊢
  have hkk : (nI k).toInt = ((k : Nat) : Int) := nI_toInt (by omega)
  rw [Int32.lt_iff_toInt_lt, hkk] at h
  omega
theorem jk_sngt {k : Nat} {x : Int32} (hx0 : 0 ≤ x) (hx9 : x.toNatClampNeg < 1000000) (hk : k ≤ x.toNatClampNeg + 1) (h : ¬ x < nI k) : k < x.toNatClampNeg + 1 := by
  have hx : x.toNatClampNeg = x.toInt.toNat := rfl
  rw [Int32.le_iff_toInt_le, Int32.toInt_zero] at hx0
  rw [hx] at hk hx9 ⊢
  have hkk : (nI k).toInt = ((k : Nat) : Int) := nI_toInt (by omega)
  rw [Int32.lt_iff_toInt_lt, hkk] at h
  omega
