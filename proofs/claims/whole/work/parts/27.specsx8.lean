/-! ===== the reference's reader: where it stands ===== -/
def jx_tpn (M : jx_T) (t q : Nat) : Prop := t ≤ 60 ∧ q ≤ t ∧ jx_tl M = nI t ∧ jx_sp M = nI q
theorem jx_tpn.tp {M : jx_T} {t q : Nat} (h : jx_tpn M t q) : jx_tp M := ⟨t, q, h⟩
theorem jx_tpn.adv {M M' : jx_T} {t q : Nat} (h : jx_tpn M t q) (c : ¬ jx_tl M ≤ jx_sp M) (e1 : jx_tl M' = jx_tl M) (e2 : jx_sp M' = jx_sp M + 1) : jx_tpn M' t (q + 1) := by
  obtain ⟨h1, h2, f1, f2⟩ := h
  rw [f1, f2] at c
  have hlt : q < t := by
    rcases Nat.lt_or_ge q t with z | z
    · exact z
    · exact absurd (nI_le z (by omega)) c
  exact ⟨h1, hlt, by rw [e1, f1], by rw [e2, f2, nI_1]⟩
theorem jx_tpn.same {M M' : jx_T} {t q : Nat} (h : jx_tpn M t q) (e1 : jx_tl M' = jx_tl M) (e2 : jx_sp M' = jx_sp M) : jx_tpn M' t q := by
  obtain ⟨h1, h2, f1, f2⟩ := h
  exact ⟨h1, h2, by rw [e1, f1], by rw [e2, f2]⟩
theorem rX5_one (M : jx_T) (v : Int32) : rX5_takesOne M v = rX5_isHere M v v := rfl
theorem tn_one0 {M : jx_T} {t q : Nat} {v : Int32} (h : jx_tpn M t q) (c : rX5_takesOne M v = 0) : jx_tpn (sX5_takesOne M v) t q := by
  rw [rX5_one] at c
  unfold sX5_takesOne
  dsimp only
  rw [if_pos c]
  exact h.same (jx_tl_usp _ _) (by rw [jx_sp_usp, Int32.add_zero])
theorem tn_one1 {M : jx_T} {t q : Nat} {v : Int32} (h : jx_tpn M t q) (c : ¬ rX5_takesOne M v = 0) : jx_tpn (sX5_takesOne M v) t (q + 1) := by
  rw [rX5_one] at c
  unfold sX5_takesOne
  dsimp only
  rw [if_neg c]
  exact h.adv (jx_here_lt c) (jx_tl_usp _ _) (jx_sp_usp _ _)
theorem tn_one {M : jx_T} {t q : Nat} {v : Int32} (h : jx_tpn M t q) : ∃ q' : Nat, q ≤ q' ∧ jx_tpn (sX5_takesOne M v) t q' := by
  by_cases c : rX5_takesOne M v = 0
  · exact ⟨q, Nat.le_refl _, tn_one0 h c⟩
  · exact ⟨q + 1, Nat.le_succ _, tn_one1 h c⟩
theorem tn_num {M : jx_T} {t q : Nat} {u v : Int32} (h : jx_tpn M t q) : ∃ q' : Nat, q ≤ q' ∧ jx_tpn (sX5_readsNumber M u v) t q' := by
  unfold sX5_readsNumber
  dsimp only
  by_cases c : rX5_isHere M (48 + u) 57 = 0
  · rw [if_pos c]
    exact ⟨q, Nat.le_refl _, h⟩
  · rw [if_neg c]
    have h1 : ∀ w : Int32, jx_tpn (jx_unu (jx_usp M (jx_sp M + 1)) w) t (q + 1) := fun w => h.adv (jx_here_lt c) (by rw [jx_tl_unu, jx_tl_usp]) (by rw [jx_sp_unu, jx_sp_usp])
    split
    · exact ⟨q + 1, Nat.le_succ _, h1 _⟩
    · split
      · exact ⟨q + 1, Nat.le_succ _, h1 _⟩
      · rename_i c3
        split
        · exact ⟨q + 1, Nat.le_succ _, h1 _⟩
        · exact ⟨q + 1 + 1, by omega, (h1 _).adv (jx_here_lt c3) (by rw [jx_tl_unu, jx_tl_usp, jx_tl_unu, jx_tl_usp]) (by rw [jx_sp_unu, jx_sp_usp, jx_sp_unu, jx_sp_usp])⟩
theorem jx_tp_one {M : jx_T} {v : Int32} (ht : jx_tp M) : jx_tp (sX5_takesOne M v) := by
  obtain ⟨t, q, h⟩ := ht
  obtain ⟨q', -, h'⟩ := tn_one (M := M) (v := v) h
  exact h'.tp
theorem jx_tp_num {M : jx_T} {u v : Int32} (ht : jx_tp M) : jx_tp (sX5_readsNumber M u v) := by
  obtain ⟨t, q, h⟩ := ht
  obtain ⟨q', -, h'⟩ := tn_num (M := M) (u := u) (v := v) h
  exact h'.tp
theorem jx_tp_upl {M : jx_T} {x : Int32} (ht : jx_tp M) : jx_tp (jx_upl M x) := jx_tp_same ht (jx_tl_upl _ _) (jx_sp_upl _ _)
theorem jx_tp_ule {M : jx_T} {x : Int32} (ht : jx_tp M) : jx_tp (jx_ule M x) := jx_tp_same ht (jx_tl_ule _ _) (jx_sp_ule _ _)
theorem jx_num_01 (M : jx_T) (u v : Int32) : rX5_readsNumber M u v = 0 ∨ rX5_readsNumber M u v = 1 := by
  unfold rX5_readsNumber
  dsimp only
  by_cases c : rX5_isHere M (48 + u) 57 = 0
  · rw [if_pos c]; exact Or.inl rfl
  · rw [if_neg c]
    refine Or.inr ?_
    split
    · rfl
    · split
      · rfl
      · split <;> rfl
theorem jx_num_nar (M : jx_T) (u v : Int32) : narrow .boolean (.int (rX5_readsNumber M u v)) = .int (rX5_readsNumber M u v) := by
  rcases jx_num_01 M u v with e | e <;> rw [e] <;> rfl
