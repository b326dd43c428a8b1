section CASES
variable (l : Launch) (D : va_G) (g : jk_G) (tl tm : Nat) (a : Nat → Nat → Nat) (ax : Nat → Nat)
/-- the world with one of the history's machines told apart -/
theorem zw_h (p u : Nat → Nat → Nat) (N T : jm_T) {F : jf_T} (G : jf_T) (Hs : jh_T) (Q : jd_T) (P : jp_T) (X : jx_T) {j : Nat} {Mj : jm_T} (hj : j < 6) (h : F j = some Mj) : (zwL g a p u ax N T F G Hs Q P X).flatten.Perm (List.flatten [jo_X (a 0) (a 1 0) (a 2 0) (a 3 0) (a 4 0) (a 5 0) (a 6 0), jm_W g (a 1) N, jm_W g (a 2) T, jh_X g (a 3) p F Hs, js_X g (a 4) u G, jd_X g (a 5) (a 6 0) Q, jp_W g (a 6) P, jm_W g (p j) Mj, jf_X g 6 p (jf_n F j), jf_X g 2 u G, jx_W g ax X]) :=
  seg_split [jo_X (a 0) (a 1 0) (a 2 0) (a 3 0) (a 4 0) (a 5 0) (a 6 0), jm_W g (a 1) N, jm_W g (a 2) T, jh_X g (a 3) p F Hs, js_X g (a 4) u G, jd_X g (a 5) (a 6 0) Q, jp_W g (a 6) P] [jf_X g 2 u G, jx_W g ax X] (jf_perm g p F hj h)
theorem zw_s {B C : va_W} (p u : Nat → Nat → Nat) (N T : jm_T) (F G : jf_T) (Hs : jh_T) (Q : jd_T) (P : jp_T) (X : jx_T) (h : (jf_X g 2 u G).Perm (B ++ C)) : (zwL g a p u ax N T F G Hs Q P X).flatten.Perm (List.flatten [jo_X (a 0) (a 1 0) (a 2 0) (a 3 0) (a 4 0) (a 5 0) (a 6 0), jm_W g (a 1) N, jm_W g (a 2) T, jh_X g (a 3) p F Hs, js_X g (a 4) u G, jd_X g (a 5) (a 6 0) Q, jp_W g (a 6) P, jf_X g 6 p F, B, C, jx_W g ax X]) :=
  seg_split [jo_X (a 0) (a 1 0) (a 2 0) (a 3 0) (a 4 0) (a 5 0) (a 6 0), jm_W g (a 1) N, jm_W g (a 2) T, jh_X g (a 3) p F Hs, js_X g (a 4) u G, jd_X g (a 5) (a 6 0) Q, jp_W g (a 6) P, jf_X g 6 p F] [jx_W g ax X] h
theorem k_undo : zwCase l D g tl tm a ax yX4_undo wsX4_undo 4 124 yX5_undo wsX5_undo 0 0 [] := by
  intro k p u N T F G Hs Q P X hk hr
  obtain ⟨nh, od, ho, m0, h, s, q⟩ := id hr
  by_cases c : jh_sz Hs = 0
  · obtain ⟨e1, e2⟩ := rl_undo0 h N c
    have c5 := c_X5_undo l D g ax X nh h.1 h.2.1
    rw [e2] at c5
    refine ⟨_, Unit, fun _ => zwL g a p u ax N T F G Hs Q P X, 0, 0, Or.inl ⟨rfl, rfl⟩, jk_wide (jk_MC (jk_Z tl tm) (c_X4_undo_0 l D g (a 0) (a 1) (a 2) (a 3) (a 4) (a 5) (a 6) N p F Hs c) rfl) jk_Z.sub (fun o => o) [0, 1, 3] [2, 4, 5, 6, 7, 8, 9] (show (List.range 10).Perm _ by decide) (fun _ => rfl) rfl (fun _ => rfl) (fun _ => rfl), fun _ => ⟨p, u, N, T, F, G, Hs, Q, P, X, X, rfl, zw5 tl tm c5 (by rw [e1]) p u N T F G Hs Q P, ri_up hr⟩⟩
  · obtain ⟨Mj, f1, f2, f3, f4, f5, f6, f7, f8⟩ := rl_undo h (by omega) N c
    have c4 := c_X4_undo_s l D g (a 0) (a 1) (a 2) (a 3) (a 4) (a 5) (a 6) N p F Hs Mj c f1
    have c5 := c_X5_undo l D g ax X nh h.1 h.2.1
    have w := jk_wide (L := [jo_X (a 0) (a 1 0) (a 2 0) (a 3 0) (a 4 0) (a 5 0) (a 6 0), jm_W g (a 1) N, jm_W g (a 2) T, jh_X g (a 3) p F Hs, js_X g (a 4) u G, jd_X g (a 5) (a 6 0) Q, jp_W g (a 6) P, jm_W g (p (jh_ib Hs).toNatClampNeg) Mj, jf_X g 6 p (jf_n F (jh_ib Hs).toNatClampNeg), jf_X g 2 u G, jx_W g ax X]) (L' := fun _ : Unit => [jo_X (a 0) (a 1 0) (a 2 0) (a 3 0) (a 4 0) (a 5 0) (a 6 0), jm_W g (a 1) (sX4_undo_s_1 N Hs Mj), jm_W g (a 2) T, jh_X g (a 3) p F (sX4_undo_s_2 N Hs Mj), js_X g (a 4) u G, jd_X g (a 5) (a 6 0) Q, jp_W g (a 6) P, jm_W g (p (jh_ib Hs).toNatClampNeg) Mj, jf_X g 6 p (jf_n F (jh_ib Hs).toNatClampNeg), jf_X g 2 u G, jx_W g ax X]) (jk_MC (jk_Z tl tm) c4 rfl) jk_Z.sub (fun o => o) [0, 1, 3, 7] [2, 4, 5, 6, 8, 9, 10] (show (List.range 11).Perm _ by decide) (fun _ => rfl) rfl (fun _ => rfl) (fun _ => rfl)
    refine ⟨_, Unit, fun _ => zwL g a p u ax (sX4_undo_s_1 N Hs Mj) T F G (sX4_undo_s_2 N Hs Mj) Q P X, 0, 0, Or.inl ⟨rfl, rfl⟩, jk_reord w jk_Z.sub (zw_h g a ax p u N T G Hs Q P X (jh_ib_lt Hs) f1) (fun _ => zw_h g a ax p u _ T G _ Q P X (jh_ib_lt Hs) f1), fun _ => ⟨p, u, _, T, F, G, _, Q, P, X, _, rfl, zw5 tl tm c5 (by rw [f2]) p u _ T F G _ Q P, nh - 1, od, by omega, f3, f4, rls_xr s f5 f6, rlp_xr q f7 f8⟩⟩
end CASES
