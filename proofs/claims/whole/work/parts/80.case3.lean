section CASES
variable (l : Launch) (D : va_G) (g : jk_G) (tl tm : Nat) (a : Nat → Nat → Nat) (ax : Nat → Nat)
/-- the world with one of the history's machines told apart -/
theorem zw_h (p u : Nat → Nat → Nat) (N T : jm_T) {F : jf_T} (G : jf_T) (Hs : jh_T) (Q : jd_T) (P : jp_T) (X : jx_T) {j : Nat} {Mj : jm_T} (hj : j < 6) (h : F j = some Mj) : (zwL g a p u ax N T F G Hs Q P X).flatten.Perm (List.flatten [jo_X (a 0) (a 1 0) (a 2 0) (a 3 0) (a 4 0) (a 5 0) (a 6 0), jm_W g (a 1) N, jm_W g (a 2) T, jh_X g (a 3) p F Hs, js_X g (a 4) u G, jd_X g (a 5) (a 6 0) Q, jp_W g (a 6) P, jm_W g (p j) Mj, jf_X g 6 p (jf_n F j), jf_X g 2 u G, jx_W g ax X]) :=
  seg_split [jo_X (a 0) (a 1 0) (a 2 0) (a 3 0) (a 4 0) (a 5 0) (a 6 0), jm_W g (a 1) N, jm_W g (a 2) T, jh_X g (a 3) p F Hs, js_X g (a 4) u G, jd_X g (a 5) (a 6 0) Q, jp_W g (a 6) P] [jf_X g 2 u G, jx_W g ax X] (jf_perm g p F hj h)
theorem zw_s {B C : va_W} (p u : Nat → Nat → Nat) (N T : jm_T) (F G : jf_T) (Hs : jh_T) (Q : jd_T) (P : jp_T) (X : jx_T) (h : (jf_X g 2 u G).Perm (B ++ C)) : (zwL g a p u ax N T F G Hs Q P X).flatten.Perm (List.flatten [jo_X (a 0) (a 1 0) (a 2 0) (a 3 0) (a 4 0) (a 5 0) (a 6 0), jm_W g (a 1) N, jm_W g (a 2) T, jh_X g (a 3) p F Hs, js_X g (a 4) u G, jd_X g (a 5) (a 6 0) Q, jp_W g (a 6) P, jf_X g 6 p F, B, C, jx_W g ax X]) :=
  seg_split [jo_X (a 0) (a 1 0) (a 2 0) (a 3 0) (a 4 0) (a 5 0) (a 6 0), jm_W g (a 1) N, jm_W g (a 2) T, jh_X g (a 3) p F Hs, js_X g (a 4) u G, jd_X g (a 5) (a 6 0) Q, jp_W g (a 6) P, jf_X g 6 p F] [jx_W g ax X] h
theorem k_undo : zwCase l D g tl tm a ax yX4_undo wsX4_undo 4 124 yX5_undo wsX5_undo 0 0 [] := by
  intro k p u N T F G Hs Q P X hk hr
  obtain ⟨nh, od, ho, m0, h, s, q⟩ := id hr
  by_cases c : jh_sz Hs = 0
  · obtain ⟨e1, e2⟩ := rl_undo0 h N c
    have c5 := c_X5_undo l D g ax X nh h.1 h.2.1
    have c4 := c_X4_undo_0 l D g (a 0) (a 1) (a 2) (a 3) (a 4) (a 5) (a 6) N p F Hs c
    rw [e2, ← e1] at c5
    generalize rX4_undo_0 N Hs = r4 at c4 c5
    refine ⟨r4, Unit, fun _ => zwL g a p u ax N T F G Hs Q P X, 0, 0, Or.inl ⟨rfl, rfl⟩, 1, 22, by omega, by omega, jk_wide (jk_MC (jk_Z tl tm) c4 rfl) jk_Z.sub (fun o => o) [0, 1, 3] [2, 4, 5, 6, 7, 8, 9] (show (List.range 10).Perm _ by decide) (fun _ => rfl) rfl (fun _ => rfl) (fun _ => rfl), fun _ => ⟨p, u, N, T, F, G, Hs, Q, P, X, X, rfl, zw5 tl tm c5 rfl p u N T F G Hs Q P, ri_up hr⟩⟩
  · obtain ⟨Mj, f1, f2, f3, f4, f5, f6, f7, f8⟩ := rl_undo h (by omega) N c
    have c4 := c_X4_undo_s l D g (a 0) (a 1) (a 2) (a 3) (a 4) (a 5) (a 6) N p F Hs Mj c f1
    have c5 := c_X5_undo l D g ax X nh h.1 h.2.1
    have w := jk_wide (L := [jo_X (a 0) (a 1 0) (a 2 0) (a 3 0) (a 4 0) (a 5 0) (a 6 0), jm_W g (a 1) N, jm_W g (a 2) T, jh_X g (a 3) p F Hs, js_X g (a 4) u G, jd_X g (a 5) (a 6 0) Q, jp_W g (a 6) P, jm_W g (p (jh_ib Hs).toNatClampNeg) Mj, jf_X g 6 p (jf_n F (jh_ib Hs).toNatClampNeg), jf_X g 2 u G, jx_W g ax X]) (L' := fun _ : Unit => [jo_X (a 0) (a 1 0) (a 2 0) (a 3 0) (a 4 0) (a 5 0) (a 6 0), jm_W g (a 1) (sX4_undo_s_1 N Hs Mj), jm_W g (a 2) T, jh_X g (a 3) p F (sX4_undo_s_2 N Hs Mj), js_X g (a 4) u G, jd_X g (a 5) (a 6 0) Q, jp_W g (a 6) P, jm_W g (p (jh_ib Hs).toNatClampNeg) Mj, jf_X g 6 p (jf_n F (jh_ib Hs).toNatClampNeg), jf_X g 2 u G, jx_W g ax X]) (jk_MC (jk_Z tl tm) c4 rfl) jk_Z.sub (fun o => o) [0, 1, 3, 7] [2, 4, 5, 6, 8, 9, 10] (show (List.range 11).Perm _ by decide) (fun _ => rfl) rfl (fun _ => rfl) (fun _ => rfl)
    refine ⟨_, Unit, fun _ => zwL g a p u ax (sX4_undo_s_1 N Hs Mj) T F G (sX4_undo_s_2 N Hs Mj) Q P X, 0, 0, Or.inl ⟨rfl, rfl⟩, _, _, Nat.le_refl _, Nat.le_refl _, jk_reord w jk_Z.sub (zw_h g a ax p u N T G Hs Q P X (jh_ib_lt Hs) f1) (fun _ => zw_h g a ax p u _ T G _ Q P X (jh_ib_lt Hs) f1), fun _ => ⟨p, u, _, T, F, G, _, Q, P, X, _, rfl, zw5 tl tm c5 (by rw [f2]) p u _ T F G _ Q P, nh - 1, od, by omega, f3, f4, rls_xr s f5 f6, rlp_xr q f7 f8⟩⟩
theorem k_save (vs : Int32) : zwCase l D g tl tm a ax yX4_save wsX4_save 3 102 yX5_save wsX5_save 1 20 [.int vs] := by
  intro k p u N T F G Hs Q P X hk hr
  obtain ⟨nh, od, ho, m0, h, s, q⟩ := id hr
  have c5 := c_X5_save l D g ax X vs
  rcases two_or vs with ⟨v, hv, ev⟩ | e
  · have ec : (nI v).toNatClampNeg = v := jk_cl (by omega)
    obtain ⟨v0, v2⟩ := slot_i hv
    obtain ⟨f1, f2, f3, f4, f5, f6, f7⟩ := rl_save s m0 hv
    rw [ev] at c5 ⊢
    rw [f1] at c5
    generalize sX5_save X (nI v) = s5 at c5 f2 f3 f4 f5 f6 f7
    have fin : zwR (k + 1) N F (jf_u G v N) Hs P s5 := ⟨nh, od, by omega, by rw [f3]; exact m0, rlh_xr h f4 f5, f2, rlp_xr q f6 f7⟩
    cases hG : G v with
    | none =>
      have c4 := c_X4_save_n l D g (a 0) (a 1) (a 2) (a 3) (a 4) (a 5) (a 6) N u G (nI v) v0 v2 (by rw [ec]; exact hG)
      rw [ec] at c4
      have w := jk_wide (L := [jo_X (a 0) (a 1 0) (a 2 0) (a 3 0) (a 4 0) (a 5 0) (a 6 0), jm_W g (a 1) N, jm_W g (a 2) T, jh_X g (a 3) p F Hs, js_X g (a 4) u G, jd_X g (a 5) (a 6 0) Q, jp_W g (a 6) P, jf_X g 6 p F, [], jf_X g 2 u G, jx_W g ax X]) (L' := fun o : Nat → Nat => [jo_X (a 0) (a 1 0) (a 2 0) (a 3 0) (a 4 0) (a 5 0) (a 6 0), jm_W g (a 1) N, jm_W g (a 2) T, jh_X g (a 3) p F Hs, js_X g (a 4) (ja_u u v o) (jf_u G v N), jd_X g (a 5) (a 6 0) Q, jp_W g (a 6) P, jf_X g 6 p F, jm_W g o N, jf_X g 2 u G, jx_W g ax X]) (jk_CZ (jk_Z tl tm) c4) jk_Z.sub (fun o => o) [0, 1, 4, 8] [2, 3, 5, 6, 7, 9, 10] (show (List.range 11).Perm _ by decide) (fun _ => rfl) rfl (fun _ => rfl) (fun _ => rfl)
      have pm : ∀ o : Nat → Nat, (jf_X g 2 (ja_u u v o) (jf_u G v N)).Perm (jm_W g o N ++ jf_X g 2 u G) := by
        intro o
        have e := jf_permU g (ja_u u v o) G N hv
        rw [ja_uj, jf_adn, jf_none hG] at e
        exact e
      exact ⟨_, (Nat → Nat), fun o => zwL g a p (ja_u u v o) ax N T F (jf_u G v N) Hs Q P X, 7, 72, Or.inr ⟨rfl, rfl⟩, _, _, Nat.le_refl _, Nat.le_refl _, jk_reord w jk_Z.sub (zw_s g a ax p u N T F G Hs Q P X (List.Perm.refl _)) (fun o => zw_s g a ax p _ N T F _ Hs Q P X (pm o)), fun o => ⟨p, ja_u u v o, N, T, F, _, Hs, Q, P, X, s5, rfl, zw5 tl tm c5 rfl p _ N T F _ Hs Q P, fin⟩⟩
    | some Mj =>
      have c4 := c_X4_save_s l D g (a 0) (a 1) (a 2) (a 3) (a 4) (a 5) (a 6) N u G Mj (nI v) v0 v2 (by rw [ec]; exact hG)
      rw [ec] at c4
      have w := jk_wide (L := [jo_X (a 0) (a 1 0) (a 2 0) (a 3 0) (a 4 0) (a 5 0) (a 6 0), jm_W g (a 1) N, jm_W g (a 2) T, jh_X g (a 3) p F Hs, js_X g (a 4) u G, jd_X g (a 5) (a 6 0) Q, jp_W g (a 6) P, jf_X g 6 p F, jm_W g (u v) Mj, jf_X g 2 u (jf_n G v), jx_W g ax X]) (L' := fun _ : Unit => [jo_X (a 0) (a 1 0) (a 2 0) (a 3 0) (a 4 0) (a 5 0) (a 6 0), jm_W g (a 1) N, jm_W g (a 2) T, jh_X g (a 3) p F Hs, js_X g (a 4) u G, jd_X g (a 5) (a 6 0) Q, jp_W g (a 6) P, jf_X g 6 p F, jm_W g (u v) N, jf_X g 2 u (jf_n G v), jx_W g ax X]) (jk_MC (jk_Z tl tm) c4 rfl) jk_Z.sub (fun o => o) [0, 1, 4, 8] [2, 3, 5, 6, 7, 9, 10] (show (List.range 11).Perm _ by decide) (fun _ => rfl) rfl (fun _ => rfl) (fun _ => rfl)
      have ej : js_X g (a 4) u (jf_u G v N) = js_X g (a 4) u G := by
        unfold js_X
        rw [jq_same u G N hG]
      rw [← ej] at w
      have z := zw_s g a ax p u N T F (jf_u G v N) Hs Q P X (jf_permU g u G N hv)
      have z0 := zw_s g a ax p u N T F G Hs Q P X (jf_perm g u G hv hG)
      rw [← ej] at z0
      exact ⟨_, Unit, fun _ => zwL g a p u ax N T F (jf_u G v N) Hs Q P X, 0, 0, Or.inl ⟨rfl, rfl⟩, _, _, Nat.le_refl _, Nat.le_refl _, jk_reord w jk_Z.sub z0 (fun _ => z), fun _ => ⟨p, u, N, T, F, _, Hs, Q, P, X, s5, rfl, zw5 tl tm c5 rfl p u N T F _ Hs Q P, fin⟩⟩
  · obtain ⟨e1, e2⟩ := rl_save_e X e
    rw [e1, e2] at c5
    refine ⟨-1000002, Unit, fun _ => zwL g a p u ax N T F G Hs Q P X, 0, 0, Or.inl ⟨rfl, rfl⟩, 0, 0, by omega, by omega, jk_wide (jk_MC (jk_Z tl tm) (c_X4_save_e l D g (a 0) (a 1) (a 2) (a 3) (a 4) (a 5) (a 6) vs (slot_e e)) rfl) jk_Z.sub (fun o => o) [0] [1, 2, 3, 4, 5, 6, 7, 8, 9] (show (List.range 10).Perm _ by decide) (fun _ => rfl) (List.append_nil _) (fun _ => List.append_nil _) (fun _ => rfl), fun _ => ⟨p, u, N, T, F, G, Hs, Q, P, X, X, rfl, zw5 tl tm c5 rfl p u N T F G Hs Q P, ri_up hr⟩⟩
theorem k_restore (vs : Int32) : zwCase l D g tl tm a ax yX4_restore wsX4_restore 4 125 yX5_restore wsX5_restore 1 21 [.int vs] := by
  intro k p u N T F G Hs Q P X hk hr
  obtain ⟨nh, od, ho, m0, h, s, q⟩ := id hr
  have c5 := c_X5_restore l D g ax X vs nh h.1 h.2.1
  rcases two_or vs with ⟨v, hv, ev⟩ | e
  · have ec : (nI v).toNatClampNeg = v := jk_cl (by omega)
    obtain ⟨v0, v2⟩ := slot_i hv
    rw [ev] at c5 ⊢
    cases hG : G v with
    | none =>
      obtain ⟨e1, e2⟩ := rl_restore_n s hv nh hG
      rw [e1, e2] at c5
      exact ⟨-1000005, Unit, fun _ => zwL g a p u ax N T F G Hs Q P X, 0, 0, Or.inl ⟨rfl, rfl⟩, 0, 0, by omega, by omega, jk_wide (jk_MC (jk_Z tl tm) (c_X4_restore_n l D g (a 0) (a 1) (a 2) (a 3) (a 4) (a 5) (a 6) u G (nI v) v0 v2 (by rw [ec]; exact hG)) rfl) jk_Z.sub (fun o => o) [0, 4] [1, 2, 3, 5, 6, 7, 8, 9] (show (List.range 10).Perm _ by decide) (fun _ => rfl) rfl (fun _ => rfl) (fun _ => rfl), fun _ => ⟨p, u, N, T, F, G, Hs, Q, P, X, X, rfl, zw5 tl tm c5 rfl p u N T F G Hs Q P, ri_up hr⟩⟩
    | some Mj =>
      obtain ⟨e1, e2, e3⟩ := rl_restore s hv nh hG
      rw [e1] at c5
      generalize sX5_restore X (nI v) nh = s5 at c5 e2 e3
      have fin := (dd_ri hk ho m0 h s q (R4 := 0) (R5 := 0) (S1 := Mj) (S2 := jh_rec Hs) (S3 := jf_u F (jh_ix Hs).toNatClampNeg N) (S5 := s5) (Or.inr ⟨rfl, rfl, rfl, e3, e2⟩)).2
      have c4 := c_X4_restore_s l D g (a 0) (a 1) (a 2) (a 3) (a 4) (a 5) (a 6) N p F Hs u G Mj (nI v) v0 v2 (by rw [ec]; exact hG)
      rw [ec] at c4
      have w := jk_wide (L := [jo_X (a 0) (a 1 0) (a 2 0) (a 3 0) (a 4 0) (a 5 0) (a 6 0), jm_W g (a 1) N, jm_W g (a 2) T, jh_X g (a 3) p F Hs, js_X g (a 4) u G, jd_X g (a 5) (a 6 0) Q, jp_W g (a 6) P, jf_X g 6 p F, jm_W g (u v) Mj, jf_X g 2 u (jf_n G v), jx_W g ax X]) (L' := fun o : Nat → Nat → Nat => [jo_X (a 0) (a 1 0) (a 2 0) (a 3 0) (a 4 0) (a 5 0) (a 6 0), jm_W g (a 1) Mj, jm_W g (a 2) T, jh_X g (a 3) o (jf_u F (jh_ix Hs).toNatClampNeg N) (jh_rec Hs), js_X g (a 4) u G, jd_X g (a 5) (a 6 0) Q, jp_W g (a 6) P, jf_X g 6 o (jf_u F (jh_ix Hs).toNatClampNeg N), jm_W g (u v) Mj, jf_X g 2 u (jf_n G v), jx_W g ax X]) (jk_CZ (jk_Z tl tm) c4) jk_Z.sub (fun o => o) [0, 1, 3, 4, 8, 7] [2, 5, 6, 9, 10] (show (List.range 11).Perm _ by decide) (fun _ => rfl) rfl (fun _ => rfl) (fun _ => rfl)
      exact ⟨_, (Nat → Nat → Nat), fun o => zwL g a o u ax Mj T (jf_u F (jh_ix Hs).toNatClampNeg N) G (jh_rec Hs) Q P X, 7, 72, Or.inr ⟨rfl, rfl⟩, _, _, Nat.le_refl _, Nat.le_refl _, jk_reord w jk_Z.sub (zw_s g a ax p u N T F G Hs Q P X (jf_perm g u G hv hG)) (fun o => zw_s g a ax o u Mj T _ G _ Q P X (jf_perm g u G hv hG)), fun o => ⟨o, u, Mj, T, _, G, _, Q, P, X, s5, rfl, zw5 tl tm c5 rfl o u Mj T _ G _ Q P, fin⟩⟩
  · obtain ⟨e1, e2⟩ := rl_restore_e X nh e
    rw [e1, e2] at c5
    exact ⟨-1000002, Unit, fun _ => zwL g a p u ax N T F G Hs Q P X, 0, 0, Or.inl ⟨rfl, rfl⟩, 0, 0, by omega, by omega, jk_wide (jk_MC (jk_Z tl tm) (c_X4_restore_e l D g (a 0) (a 1) (a 2) (a 3) (a 4) (a 5) (a 6) vs (slot_e e)) rfl) jk_Z.sub (fun o => o) [0] [1, 2, 3, 4, 5, 6, 7, 8, 9] (show (List.range 10).Perm _ by decide) (fun _ => rfl) (List.append_nil _) (fun _ => List.append_nil _) (fun _ => rfl), fun _ => ⟨p, u, N, T, F, G, Hs, Q, P, X, X, rfl, zw5 tl tm c5 rfl p u N T F G Hs Q P, ri_up hr⟩⟩
end CASES
