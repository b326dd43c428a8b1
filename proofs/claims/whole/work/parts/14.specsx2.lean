/-! ===== the reference: the log in closed form; its length stays a place of it ===== -/
theorem lx_lk_off (f : Nat → Int32) {j : Nat} (h9 : j ≠ 9) (h : j < 13 ∨ 37 ≤ j) : ∀ k : Nat, k ≤ 24 → lx_lk f k j = f j
  | 0, _ => rfl
  | k + 1, hk => by
    show upd (upd (lx_lk f k) (nI (13 + k)).toNatClampNeg _) 9 _ j = f j
    rw [jk_cl (by omega), pk_un h9, pk_un (by omega)]
    exact lx_lk_off f h9 h k (by omega)
theorem lx_logs8 {M : jx_T} (h : jx_al M 12 = 8) : sX5_logs M = jx_ual M (upd (upd (upd (upd (upd (lx_lg (jx_al M) 21) 12 7) 64 (jx_al M 5)) 65 (jx_al M 37)) 66 (jx_al M 38)) 12 8) := by
  have e : lx_lg (jx_al M) 21 12 = 8 := (if_neg (by omega)).trans h
  unfold sX5_logs
  rw [if_pos h, e]
  rfl
theorem lx_logsN {M : jx_T} {n : Nat} (hn : n < 8) (h : jx_al M 12 = nI n) : sX5_logs M = jx_ual M (upd (upd (upd (upd (jx_al M) (43 + 3 * n) (jx_al M 5)) (43 + 3 * n + 1) (jx_al M 37)) (43 + 3 * n + 2) (jx_al M 38)) 12 (nI (n + 1))) := by
  have hne : ¬ jx_al M 12 = 8 := by
    rw [h, show (8 : Int32) = nI 8 from rfl, nI_eq (by omega) (by omega)]
    omega
  have e0 : (43 + 3 * jx_al M 12 : Int32) = nI (43 + 3 * n) := by rw [h, show (3 : Int32) = nI 3 from rfl, pk_mul, show (43 : Int32) = nI 43 from rfl, nI_add]
  have e1 : (nI (43 + 3 * n) + 1 : Int32) = nI (43 + 3 * n + 1) := nI_1 _
  have e2 : (nI (43 + 3 * n) + 2 : Int32) = nI (43 + 3 * n + 2) := by rw [show (2 : Int32) = nI 2 from rfl, nI_add]
  unfold sX5_logs
  rw [if_neg hne]
  have g1 : upd (jx_al M) (43 + 3 * n) (jx_al M 5) 37 = jx_al M 37 := pk_un (by omega)
  have g2 : upd (upd (jx_al M) (43 + 3 * n) (jx_al M 5)) (43 + 3 * n + 1) (jx_al M 37) 38 = jx_al M 38 := by rw [pk_un (by omega), pk_un (by omega)]
  have g3 : upd (upd (upd (jx_al M) (43 + 3 * n) (jx_al M 5)) (43 + 3 * n + 1) (jx_al M 37)) (43 + 3 * n + 2) (jx_al M 38) 12 = nI n := by rw [pk_un (by omega), pk_un (by omega), pk_un (by omega), h]
  rw [e0]
  dsimp only
  rw [e1, e2, jk_cl (by omega), jk_cl (by omega), jk_cl (by omega), g1, g2, g3, nI_1]
theorem jx_12_charges (M : jx_T) : jx_al (sX5_charges M) 12 = jx_al M 12 := by
  have h : ∀ X : jx_T, jx_al (sX5_leaks X) 12 = jx_al X 12 := fun X => (show jx_al (sX5_leaks X) 12 = lx_lk (jx_al X) 24 12 from rfl).trans (lx_lk_off _ (by omega) (by omega) 24 (Nat.le_refl _))
  unfold sX5_charges
  rw [h]
  rfl
theorem jx_ok_charges {M : jx_T} (h : jx_ok (jx_al M)) : jx_ok (jx_al (sX5_charges M)) := by
  obtain ⟨n, h1, h2⟩ := h
  exact ⟨n, h1, by rw [jx_12_charges, h2]⟩
theorem jx_ok_logs {M : jx_T} (h : jx_ok (jx_al M)) : jx_ok (jx_al (sX5_logs M)) := by
  obtain ⟨n, h1, h2⟩ := h
  by_cases c : n = 8
  · subst c
    rw [lx_logs8 (by rw [h2]; rfl)]
    exact ⟨8, by omega, rfl⟩
  · rw [lx_logsN (by omega) h2]
    exact ⟨n + 1, by omega, rfl⟩
theorem jx_ok_sparks {M : jx_T} (h : jx_ok (jx_al M)) : jx_ok (jx_al (sX5_sparks M)) := by
  unfold sX5_sparks
  by_cases c : (10 * ((jx_al M) 2)) ≤ (rX5_difference M)
  · rw [if_pos c]
    exact jx_ok_logs h
  · rw [if_neg c]
    exact h
