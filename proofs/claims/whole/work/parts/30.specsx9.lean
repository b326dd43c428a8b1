/-! ===== the reference's texts: the fault ===== -/
theorem tn_upl {M : jx_T} {t q : Nat} {x : Int32} (h : jx_tpn M t q) : jx_tpn (jx_upl M x) t q := h.same (jx_tl_upl _ _) (jx_sp_upl _ _)
theorem tn_ule {M : jx_T} {t q : Nat} {x : Int32} (h : jx_tpn M t q) : jx_tpn (jx_ule M x) t q := h.same (jx_tl_ule _ _) (jx_sp_ule _ _)
theorem tn_ucg {M : jx_T} {t q : Nat} {x : Int32} (h : jx_tpn M t q) : jx_tpn (jx_ucg M x) t q := h.same (jx_tl_ucg _ _) (jx_sp_ucg _ _)
theorem tn_touch {M : jx_T} {t q : Nat} (h : jx_tpn M t q) : ∃ q' : Nat, q ≤ q' ∧ jx_tpn (sX5_readsTouch M) t q' := by
  unfold sX5_readsTouch
  dsimp only
  obtain ⟨q1, g1, h1⟩ := tn_num (u := 0) (v := 11) h
  have h1' := tn_upl (x := jx_nu (sX5_readsNumber M 0 11)) h1
  by_cases c : rX5_readsNumber M 0 11 = 0
  · rw [if_pos c]
    exact ⟨q1, g1, h1'⟩
  · rw [if_neg c]
    obtain ⟨q2, g2, h2⟩ := tn_one (v := 61) h1'
    by_cases c2 : rX5_takesOne (jx_upl (sX5_readsNumber M 0 11) (jx_nu (sX5_readsNumber M 0 11))) 61 = 0
    · rw [if_pos c2]
      exact ⟨q2, by omega, h2⟩
    · rw [if_neg c2]
      obtain ⟨q3, g3, h3⟩ := tn_one (v := 45) h2
      obtain ⟨q4, g4, h4⟩ := tn_num (u := 0) (v := 99) h3
      exact ⟨q4, by omega, tn_ucg h4⟩
theorem tn_deed {M : jx_T} {t q : Nat} (h : jx_tpn M t q) : ∃ q' : Nat, q ≤ q' ∧ jx_tpn (sX5_readsDeed M) t q' := by
  unfold sX5_readsDeed
  dsimp only
  have h0 := tn_ule (x := if jx_tl M ≤ jx_sp M then 0 else jx_tx M (jx_sp M).toNatClampNeg) h
  generalize jx_ule M (if jx_tl M ≤ jx_sp M then 0 else jx_tx M (jx_sp M).toNatClampNeg) = M0 at h0 ⊢
  obtain ⟨q1, g1, h1⟩ := tn_one (v := 120) h0
  generalize sX5_takesOne M0 120 = M1 at h1 ⊢
  obtain ⟨q2, g2, h2⟩ := tn_one (v := 46) h1
  generalize sX5_takesOne M1 46 = M2 at h2 ⊢
  obtain ⟨q3, g3, h3⟩ := tn_one (v := 102) h2
  obtain ⟨q3n, g3n, h3n⟩ := tn_num (u := 1) (v := 99) h2
  generalize sX5_takesOne M2 102 = M3 at h3 ⊢
  obtain ⟨q4, g4, h4⟩ := tn_one (v := 98) h3
  obtain ⟨q4t, g4t, h4t⟩ := tn_touch h3
  generalize sX5_takesOne M3 98 = M4 at h4 ⊢
  obtain ⟨q5, g5, h5⟩ := tn_touch h4
  by_cases c : rX5_takesOne M0 120 = 0
  · rw [if_pos c]
    by_cases c2 : rX5_takesOne M1 46 = 0
    · rw [if_pos c2]
      by_cases c3 : rX5_takesOne M2 102 = 0
      · rw [if_pos c3]
        by_cases c4 : rX5_takesOne M3 98 = 0
        · rw [if_pos c4]
          exact ⟨q4, by omega, h4⟩
        · rw [if_neg c4]
          rw [ite_self]
          exact ⟨q5, by omega, h5⟩
      · rw [if_neg c3]
        rw [ite_self]
        exact ⟨q4t, by omega, h4t⟩
    · rw [if_neg c2]
      exact ⟨q3n, by omega, h3n⟩
  · rw [if_neg c]
    exact ⟨q1, by omega, h1⟩
def jx_pos (M : jx_T) : Nat := (jx_sp M).toNatClampNeg
theorem jx_tpn.pos {M : jx_T} {t q : Nat} (h : jx_tpn M t q) : jx_pos M = q := by
  obtain ⟨h1, h2, -, e⟩ := h
  unfold jx_pos
  rw [e, jk_cl (by omega)]
theorem tn_next {M : jx_T} {t : Nat} (h : jx_tpn M t (jx_pos M)) : jx_tpn (sX5_takesOne (sX5_readsDeed M) 59) t (jx_pos (sX5_takesOne (sX5_readsDeed M) 59)) := by
  obtain ⟨q1, -, h1⟩ := tn_deed h
  obtain ⟨q2, -, h2⟩ := tn_one (v := 59) h1
  rw [h2.pos]
  exact h2
theorem tn_more {M : jx_T} {t k : Nat} (h : jx_tpn M t (jx_pos M)) (hk : k ≤ jx_pos M) : rX5_takesOne (sX5_readsDeed M) 59 = 0 ∨ k + 1 ≤ jx_pos (sX5_takesOne (sX5_readsDeed M) 59) := by
  obtain ⟨q1, g1, h1⟩ := tn_deed h
  by_cases c : rX5_takesOne (sX5_readsDeed M) 59 = 0
  · exact Or.inl c
  · have h2 := tn_one1 h1 c
    rw [h2.pos]
    exact Or.inr (by omega)
/-- what fault() answers behind its loop, and its loop, at most n deeds more -/
def lx_fin (X : jx_T) : Int32 × jx_T := ((if jx_sp X = jx_tl X then (-1000006) else jx_sp X), X)
def lx_fl : Nat → jx_T → Int32 × jx_T
  | 0, X => (0, X)
  | n + 1, X => if rX5_readsDeed X = 0 then (jx_sp (sX5_readsDeed X), sX5_readsDeed X)
      else if rX5_takesOne (sX5_readsDeed X) 59 = 0 then lx_fin (sX5_takesOne (sX5_readsDeed X) 59) else lx_fl n (sX5_takesOne (sX5_readsDeed X) 59)
def lx_fE (b : Int32) (n : Nat) (X : jx_T) : Int32 × jx_T := if b = 0 then lx_fin X else lx_fl n X
theorem lx_fl_fin {b : Int32} {n : Nat} {X : jx_T} {Y : Int32 × jx_T} (c : b = 0) (hE : lx_fE b n X = Y) : lx_fin X = Y := by
  rw [← hE]
  unfold lx_fE
  rw [if_pos c]
theorem lx_fl_stop {b : Int32} {k : Nat} {X : jx_T} {Y : Int32 × jx_T} (hk : k < 61) (c : ¬ b = 0) (c2 : rX5_readsDeed X = 0) (hE : lx_fE b (61 - k) X = Y) : (jx_sp (sX5_readsDeed X), sX5_readsDeed X) = Y := by
  rw [← hE]
  unfold lx_fE
  rw [if_neg c, show 61 - k = (61 - (k + 1)) + 1 by omega]
  unfold lx_fl
  rw [if_pos c2]
theorem lx_fl_next {b : Int32} {k : Nat} {X : jx_T} {Y : Int32 × jx_T} (hk : k < 61) (c : ¬ b = 0) (c2 : ¬ rX5_readsDeed X = 0) (hE : lx_fE b (61 - k) X = Y) : lx_fE (rX5_takesOne (sX5_readsDeed X) 59) (61 - (k + 1)) (sX5_takesOne (sX5_readsDeed X) 59) = Y := by
  rw [← hE]
  unfold lx_fE
  rw [if_neg c, show 61 - k = (61 - (k + 1)) + 1 by omega]
  show _ = lx_fl ((61 - (k + 1)) + 1) X
  rw [lx_fl, if_neg c2]
