theorem seg_split (L M : List va_W) {A B C : va_W} (h : A.Perm (B ++ C)) : (L ++ A :: M).flatten.Perm (L ++ B :: C :: M).flatten := by
  rw [List.flatten_append, List.flatten_append, List.flatten_cons, List.flatten_cons, List.flatten_cons, ← List.append_assoc B]
  exact (h.append_right _).append_left _
theorem rlp_ch {P : jp_T} {X : jx_T} (h : rlp P X) : jp_chs P := by
  obtain ⟨t, -, -, -, -, c⟩ := h
  exact c
theorem ri_sm {k : Nat} {N : jm_T} {F G : jf_T} {Hs : jh_T} {P : jp_T} {X A : jx_T} (h : zwR k N F G Hs P X) (b : xsm A X) (e : jx_al A = jx_al X) : zwR (k + 1) N F G Hs P A := by
  obtain ⟨nh, od, h1, h2, h3, h4, h5⟩ := h
  exact ⟨nh, od, by omega, by rw [e]; exact h2, rlh_xr h3 b.1 b.2.2.2.2.1, rls_xr h4 b.2.1 b.2.2.1, rlp_xr h5 b.2.2.2.1 b.2.2.2.2.2⟩
section CASES
variable (l : Launch) (D : va_G) (g : jk_G) (tl tm : Nat) (a : Nat → Nat → Nat) (ax : Nat → Nat)
theorem k_put (vv : Int64) : zwCase l D g tl tm a ax yX4_put wsX4_put 1 26 yX5_put wsX5_put 2 49 [.long vv] := by
  intro k p u N T F G Hs Q P X hk hr
  obtain ⟨nh, od, ho, m0, h, s, q⟩ := id hr
  obtain ⟨tt, cn, i1, i2, i3, i4, i5, i6, i7, i8, i9, i10, i11⟩ := rl_put q vv
  have c4 := c_X4_put l D g (a 0) (a 1) (a 2) (a 3) (a 4) (a 5) (a 6) P vv tt cn i1 i2 i3 i4
  have c5 := c_X5_put l D g ax X vv (rl_tb q)
  rw [i5] at c4
  generalize (if lc_ci 8 vv 0 = 0 then P else if jp_ln P + lc_ci 8 vv 0 ≤ 60 then (jp_uln (jp_usg P (lc_app (jp_sg P) tt vv (lc_ci 8 vv 0) cn)) (nI (tt + cn))) else P) = P2 at c4 i6
  generalize rX5_put X vv = r5 at c4 c5
  generalize sX5_put X vv = s5 at c5 i6 i7 i8 i9 i10 i11
  exact ⟨_, Unit, fun _ => zwL g a p u ax N T F G Hs Q P2 X, 0, 0, Or.inl ⟨rfl, rfl⟩, _, _, Nat.le_refl _, Nat.le_refl _, jk_wide (jk_MC (jk_Z tl tm) c4 rfl) jk_Z.sub (fun o => o) [0, 6] [1, 2, 3, 4, 5, 7, 8, 9] (show (List.range 10).Perm _ by decide) (fun _ => rfl) rfl (fun _ => rfl) (fun _ => rfl), fun _ => ⟨p, u, N, T, F, G, Hs, Q, P2, X, s5, rfl, zw5 tl tm c5 rfl p u N T F G Hs Q P2, nh, od, by omega, by rw [i7]; exact m0, rlh_xr h i8 i9, rls_xr s i10 i11, i6⟩⟩
theorem k_wipe : zwCase l D g tl tm a ax yX4_wipe wsX4_wipe 1 20 yX5_wipe wsX5_wipe 0 0 [] := by
  intro k p u N T F G Hs Q P X hk hr
  obtain ⟨nh, od, ho, m0, h, s, q⟩ := id hr
  obtain ⟨e1, e2⟩ := rl_wipe q
  exact ⟨_, Unit, fun _ => zwL g a p u ax N T F G Hs Q (sX4_wipe_1 P) X, 0, 0, Or.inl ⟨rfl, rfl⟩, _, _, Nat.le_refl _, Nat.le_refl _, jk_wide (jk_MC (jk_Z tl tm) (c_X4_wipe l D g (a 0) (a 1) (a 2) (a 3) (a 4) (a 5) (a 6) P) rfl) jk_Z.sub (fun o => o) [0, 6] [1, 2, 3, 4, 5, 7, 8, 9] (show (List.range 10).Perm _ by decide) (fun _ => rfl) rfl (fun _ => rfl) (fun _ => rfl), fun _ => ⟨p, u, N, T, F, G, Hs, Q, _, X, _, rfl, zw5 tl tm (c_X5_wipe l D g ax X) (by rw [e1]) p u N T F G Hs Q _, nh, od, by omega, m0, h, s, e2⟩⟩
theorem k_fault : zwCase l D g tl tm a ax yX4_fault wsX4_fault 6 131 yX5_fault wsX5_fault 5 112 [] := by
  intro k p u N T F G Hs Q P X hk hr
  obtain ⟨nh, od, ho, m0, h, s, q⟩ := id hr
  obtain ⟨e1, e2, e3⟩ := rl_fault q Q
  have c4 := c_X4_fault l D g (a 0) (a 1) (a 2) (a 3) (a 4) (a 5) (a 6) Q P (rlp_ch q)
  have c5 := c_X5_fault l D g ax X (rl_tb q)
  generalize rX4_fault Q P = r4 at c4 e1
  generalize sX4_fault_1 Q P = Q2 at c4
  generalize lx_fl 61 (jx_usp X 0) = z at c5 e1 e2 e3
  exact ⟨_, Unit, fun _ => zwL g a p u ax N T F G Hs Q2 P X, 0, 0, Or.inl ⟨rfl, rfl⟩, _, _, Nat.le_refl _, Nat.le_refl _, jk_wide (jk_MC (jk_Z tl tm) c4 rfl) jk_Z.sub (fun o => o) [0, 5, 6] [1, 2, 3, 4, 7, 8, 9] (show (List.range 10).Perm _ by decide) (fun _ => rfl) rfl (fun _ => rfl) (fun _ => rfl), fun _ => ⟨p, u, N, T, F, G, Hs, Q2, P, X, z.2, rfl, zw5 tl tm c5 (by rw [e1]) p u N T F G Hs Q2 P, ri_sm hr e2 e3⟩⟩
theorem k_run : zwCase l D g tl tm a ax yX4_run wsX4_run 7 160 yX5_run wsX5_run 6 134 [] := by
  intro k p u N T F G Hs Q P X hk hr
  obtain ⟨nh, od, ho, m0, h, s, q⟩ := id hr
  have c4 := c_X4_run l D g (a 0) (a 1) (a 2) (a 3) (a 4) (a 5) (a 6) N p F Hs Q P (rlp_ch q)
  have c5 := c_X5_run l D g ax X nh h.1 h.2.1 (rl_ok m0) (rl_tb q)
  have hrun := rl_run q m0 Q nh
  generalize lc_ff P 61 (jd_uat Q 0) = z4 at c4 hrun
  generalize lx_fl 61 (jx_usp X 0) = z5 at c5 hrun
  generalize lc_rl P 60 N (sX0_start z4.2) = w4 at c4 hrun
  generalize lx_rn 61 (jx_usp (lx_chg z5.2 nh) 0) 0 = w5 at c5 hrun
  rcases hrun with ⟨n4, n5, e2, e3⟩ | ⟨y4, y5, e1, e2, e3⟩
  · simp only [if_neg n4] at c4
    rw [if_neg n5, if_neg n5] at c5
    exact ⟨_, (Nat → Nat → Nat), fun o => zwL g a o u ax N T F G Hs z4.2 P X, 7, 72, Or.inr ⟨rfl, rfl⟩, _, _, Nat.le_refl _, Nat.le_refl _, jk_wide (jk_CZ (jk_Z tl tm) c4) jk_Z.sub (fun o => o) [0, 1, 3, 5, 6, 7] [2, 4, 8, 9] (show (List.range 10).Perm _ by decide) (fun _ => rfl) rfl (fun _ => rfl) (fun _ => rfl), fun o => ⟨o, u, N, T, F, G, Hs, z4.2, P, X, z5.2, rfl, zw5 tl tm c5 rfl o u N T F G Hs z4.2 P, ri_sm hr e2 e3⟩⟩
  · simp only [if_pos y4] at c4
    rw [if_pos y5, if_pos y5] at c5
    obtain ⟨nh', od', g1, g2⟩ := rl_rec h (by omega) m0 (A := lx_chg X nh) rfl
    have g3 : xsm (jx_utl w5.2 0) (jx_utl (lx_chg X nh) 0) := ⟨e3.1, e3.2.1, e3.2.2.1, e3.2.2.2.1, e3.2.2.2.2.1, rfl⟩
    have ch : jp_chs P := rlp_ch q
    have g4 : rlp (sX3_clear P) (jx_utl w5.2 0) := ⟨0, by omega, rfl, rfl, fun j hj => absurd hj (by omega), ch⟩
    have g5 : rls G (jx_utl (lx_chg X nh) 0) := s
    have g6 : rlh nh' od' (jh_rec Hs) (jf_u F (jh_ix Hs).toNatClampNeg N) (jx_utl (lx_chg X nh) 0) := g2
    exact ⟨_, (Nat → Nat → Nat), fun o => zwL g a o u ax w4.1 T (jf_u F (jh_ix Hs).toNatClampNeg N) G (jh_rec Hs) w4.2 (sX3_clear P) X, 7, 72, Or.inr ⟨rfl, rfl⟩, _, _, Nat.le_refl _, Nat.le_refl _, jk_wide (jk_CZ (jk_Z tl tm) c4) jk_Z.sub (fun o => o) [0, 1, 3, 5, 6, 7] [2, 4, 8, 9] (show (List.range 10).Perm _ by decide) (fun _ => rfl) rfl (fun _ => rfl) (fun _ => rfl), fun o => ⟨o, u, w4.1, T, _, G, _, w4.2, _, X, _, rfl, zw5 tl tm c5 (by rw [e1]) o u w4.1 T _ G _ w4.2 _, nh', od', by omega, e2, rlh_xr g6 g3.1 g3.2.2.2.2.1, rls_xr g5 g3.2.1 g3.2.2.1, g4⟩⟩
end CASES
