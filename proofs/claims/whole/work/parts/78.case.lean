/-! ===== the whole world ===== -/
def zwL (g : jk_G) (a : Nat → Nat → Nat) (p u : Nat → Nat → Nat) (ax : Nat → Nat) (N T : jm_T) (F G : jf_T) (Hs : jh_T) (Q : jd_T) (P : jp_T) (X : jx_T) : List va_W := [jo_X (a 0) (a 1 0) (a 2 0) (a 3 0) (a 4 0) (a 5 0) (a 6 0), jm_W g (a 1) N, jm_W g (a 2) T, jh_X g (a 3) p F Hs, js_X g (a 4) u G, jd_X g (a 5) (a 6 0) Q, jp_W g (a 6) P, jf_X g 6 p F, jf_X g 2 u G, jx_W g ax X]
def zwR (k : Nat) (N : jm_T) (F G : jf_T) (Hs : jh_T) (P : jp_T) (X : jx_T) : Prop := ∃ nh od, od ≤ k ∧ mrB N (jx_al X) ∧ rlh nh od Hs F X ∧ rls G X ∧ rlp P X
def zwCase (l : Launch) (D : va_G) (g : jk_G) (tl tm : Nat) (a : Nat → Nat → Nat) (ax : Nat → Nat) (y4 : MethodName) (ws4 : List Cond) (fr4 lo4 : Nat) (y5 : MethodName) (ws5 : List Cond) (fr5 lo5 : Nat) (As : List Value) : Prop :=
  ∀ (k : Nat) (p u : Nat → Nat → Nat) (N T : jm_T) (F G : jf_T) (Hs : jh_T) (Q : jd_T) (P : jp_T) (X : jx_T), k < 900 → zwR k N F G Hs P X →
    ∃ (r : Int32) (O : Type) (L4 : O → List va_W) (mc ms : Nat), ((mc = 0 ∧ ms = 0) ∨ (mc = 7 ∧ ms = 72)) ∧ ∃ (fr lo : Nat), fr ≤ fr4 ∧ lo ≤ lo4 ∧ jk_C l D g (jk_Z tl tm) y4 ws4 fr lo mc ms (.ref (a 0 0) :: As) (zwL g a p u ax N T F G Hs Q P X).flatten (some (.int r)) (fun o => (L4 o).flatten) ∧
      ∀ o, ∃ (p u : Nat → Nat → Nat) (N T : jm_T) (F G : jf_T) (Hs : jh_T) (Q : jd_T) (P : jp_T) (X X' : jx_T), L4 o = zwL g a p u ax N T F G Hs Q P X ∧ jk_C l D g (jk_Z tl tm) y5 ws5 fr5 lo5 0 0 (.ref (ax 0) :: As) (zwL g a p u ax N T F G Hs Q P X).flatten (some (.int r)) (fun _ : Unit => (zwL g a p u ax N T F G Hs Q P X').flatten) ∧ zwR (k + 1) N F G Hs P X'
theorem zw5 {l : Launch} {D : va_G} {g : jk_G} (tl tm : Nat) {a : Nat → Nat → Nat} {ax : Nat → Nat} {y : MethodName} {ws : List Cond} {fr lo : Nat} {av : List Value} {r r' : Option Value} {X X' : jx_T} (hM : jk_M l D g y ws fr lo av (jx_W g ax X) r' (jx_W g ax X')) (er : r' = r) (p u : Nat → Nat → Nat) (N T : jm_T) (F G : jf_T) (Hs : jh_T) (Q : jd_T) (P : jp_T) : jk_C l D g (jk_Z tl tm) y ws fr lo 0 0 av (zwL g a p u ax N T F G Hs Q P X).flatten r (fun _ : Unit => (zwL g a p u ax N T F G Hs Q P X').flatten) := by
  subst er
  exact jk_wide (jk_MC (jk_Z tl tm) hM rfl) jk_Z.sub (fun o => o) [9] [0, 1, 2, 3, 4, 5, 6, 7, 8] (show (List.range 10).Perm _ by decide) (fun _ => rfl) (List.append_nil _) (fun _ => List.append_nil _) (fun _ => rfl)
theorem dd_ri {k nh od : Nat} {N : jm_T} {Hs : jh_T} {F G : jf_T} {P : jp_T} {X : jx_T} {R4 R5 : Int32} {S1 : jm_T} {S2 : jh_T} {S3 : jf_T} {S5 : jx_T} (hk : k < 900) (ho : od ≤ k) (m : mrB N (jx_al X)) (h : rlh nh od Hs F X) (s : rls G X) (q : rlp P X) (d : dd N Hs F X nh R4 S1 S2 S3 R5 S5) : R5 = R4 ∧ zwR (k + 1) S1 S3 G S2 P S5 := by
  rcases d with ⟨d1, d2, d3, d4, d5⟩ | ⟨d1, d2, d3, d4, d5⟩
  · rw [d2, d3, d4, d5]
    exact ⟨d1.symm, nh, od, by omega, m, h, s, q⟩
  · rw [d2, d3]
    obtain ⟨nh', od', e1, e2⟩ := rl_rec h (by omega) m d4
    have g1 : jx_sl S5 = jx_sl (lx_chg X nh) := xrr_sl d4
    have f1 : jx_sl S5 = jx_sl X := g1
    have g2 : jx_sv S5 = jx_sv (lx_chg X nh) := xrr_sv d4
    have f2 : jx_sv S5 = jx_sv X := g2
    have g3 : jx_tx S5 = jx_tx (lx_chg X nh) := xrr_tx d4
    have f3 : jx_tx S5 = jx_tx X := g3
    have g4 : jx_tl S5 = jx_tl (lx_chg X nh) := xrr_tl d4
    have f4 : jx_tl S5 = jx_tl X := g4
    exact ⟨d1.symm, nh', od', by omega, d5, e2, rls_xr s f1 f2, rlp_xr q f3 f4⟩
theorem ri_up {k : Nat} {N : jm_T} {F G : jf_T} {Hs : jh_T} {P : jp_T} {X : jx_T} (h : zwR k N F G Hs P X) : zwR (k + 1) N F G Hs P X := by
  obtain ⟨nh, od, h1, h2⟩ := h
  exact ⟨nh, od, by omega, h2⟩
theorem ri_bk {k : Nat} {N : jm_T} {F G : jf_T} {Hs : jh_T} {P : jp_T} {X A : jx_T} (h : zwR k N F G Hs P X) (b : xbk A X) : zwR (k + 1) N F G Hs P A := by
  obtain ⟨nh, od, h1, h2, h3, h4, h5⟩ := h
  exact ⟨nh, od, by omega, mrB_congr h2 b.2, rlh_xr h3 (xrr_hi b.1) (xrr_hl b.1), rls_xr h4 (xrr_sl b.1) (xrr_sv b.1), rlp_xr h5 (xrr_tx b.1) (xrr_tl b.1)⟩
section CASES
variable (l : Launch) (D : va_G) (g : jk_G) (tl tm : Nat) (a : Nat → Nat → Nat) (ax : Nat → Nat)
theorem k_sector (vd vq : Int32) : zwCase l D g tl tm a ax yX4_sector wsX4_sector 2 44 yX5_sector wsX5_sector 2 45 [.int vd, .int vq] := by
  intro k p u N T F G Hs Q P X hk hr
  obtain ⟨nh, od, ho, ⟨T0, S0, hT, m⟩, h, s, q⟩ := id hr
  exact ⟨_, Unit, fun _ => zwL g a p u ax N T F G Hs Q P X, 0, 0, Or.inl ⟨rfl, rfl⟩, _, _, Nat.le_refl _, Nat.le_refl _, jk_wide (jk_MC (jk_Z tl tm) (c_X4_sector l D g (a 0) (a 1) (a 2) (a 3) (a 4) (a 5) (a 6) N vd vq) rfl) jk_Z.sub (fun o => o) [0, 1] [2, 3, 4, 5, 6, 7, 8, 9] (show (List.range 10).Perm _ by decide) (fun _ => rfl) rfl (fun _ => rfl) (fun _ => rfl), fun _ => ⟨p, u, N, T, F, G, Hs, Q, P, X, X, rfl, zw5 tl tm (c_X5_sector l D g ax X vd vq) (by rw [an_sector m (by omega) vd vq]) p u N T F G Hs Q P, ri_up hr⟩⟩
theorem k_disc (vd vq : Int32) : zwCase l D g tl tm a ax yX4_disc wsX4_disc 2 45 yX5_disc wsX5_disc 1 21 [.int vd, .int vq] := by
  intro k p u N T F G Hs Q P X hk hr
  obtain ⟨nh, od, ho, ⟨T0, S0, hT, m⟩, h, s, q⟩ := id hr
  exact ⟨_, Unit, fun _ => zwL g a p u ax N T F G Hs Q P X, 0, 0, Or.inl ⟨rfl, rfl⟩, _, _, Nat.le_refl _, Nat.le_refl _, jk_wide (jk_MC (jk_Z tl tm) (c_X4_disc l D g (a 0) (a 1) (a 2) (a 3) (a 4) (a 5) (a 6) N vd vq) rfl) jk_Z.sub (fun o => o) [0, 1] [2, 3, 4, 5, 6, 7, 8, 9] (show (List.range 10).Perm _ by decide) (fun _ => rfl) rfl (fun _ => rfl) (fun _ => rfl), fun _ => ⟨p, u, N, T, F, G, Hs, Q, P, X, X, rfl, zw5 tl tm (c_X5_disc l D g ax X vd vq) (by rw [an_disc m vd vq]) p u N T F G Hs Q P, ri_up hr⟩⟩
theorem k_jar (vd vq : Int32) : zwCase l D g tl tm a ax yX4_jar wsX4_jar 0 0 yX5_jar wsX5_jar 1 25 [.int vd, .int vq] := by
  intro k p u N T F G Hs Q P X hk hr
  obtain ⟨nh, od, ho, ⟨T0, S0, hT, m⟩, h, s, q⟩ := id hr
  exact ⟨_, Unit, fun _ => zwL g a p u ax N T F G Hs Q P X, 0, 0, Or.inl ⟨rfl, rfl⟩, _, _, Nat.le_refl _, Nat.le_refl _, jk_wide (jk_MC (jk_Z tl tm) (c_X4_jar l D g (a 0) (a 1) (a 2) (a 3) (a 4) (a 5) (a 6) N vd vq) rfl) jk_Z.sub (fun o => o) [0, 1] [2, 3, 4, 5, 6, 7, 8, 9] (show (List.range 10).Perm _ by decide) (fun _ => rfl) rfl (fun _ => rfl) (fun _ => rfl), fun _ => ⟨p, u, N, T, F, G, Hs, Q, P, X, X, rfl, zw5 tl tm (c_X5_jar l D g ax X vd vq) (by rw [an_jar m vd vq]) p u N T F G Hs Q P, ri_up hr⟩⟩
theorem k_spark (vd vq : Int32) : zwCase l D g tl tm a ax yX4_spark wsX4_spark 2 42 yX5_spark wsX5_spark 1 25 [.int vd, .int vq] := by
  intro k p u N T F G Hs Q P X hk hr
  obtain ⟨nh, od, ho, m0, h, s, q⟩ := id hr
  obtain ⟨T0, S0, hT, m⟩ := id m0
  exact ⟨_, Unit, fun _ => zwL g a p u ax N T F G Hs Q P X, 0, 0, Or.inl ⟨rfl, rfl⟩, _, _, Nat.le_refl _, Nat.le_refl _, jk_wide (jk_MC (jk_Z tl tm) (c_X4_spark l D g (a 0) (a 1) (a 2) (a 3) (a 4) (a 5) (a 6) N vd vq) rfl) jk_Z.sub (fun o => o) [0, 1] [2, 3, 4, 5, 6, 7, 8, 9] (show (List.range 10).Perm _ by decide) (fun _ => rfl) rfl (fun _ => rfl) (fun _ => rfl), fun _ => ⟨p, u, N, T, F, G, Hs, Q, P, X, X, rfl, zw5 tl tm (c_X5_spark l D g ax X vd vq (rl_ok m0)) (by rw [an_spark m (by omega) vd vq]) p u N T F G Hs Q P, ri_up hr⟩⟩
theorem k_count (vw : Int32) : zwCase l D g tl tm a ax yX4_count wsX4_count 3 64 yX5_count wsX5_count 1 25 [.int vw] := by
  intro k p u N T F G Hs Q P X hk hr
  obtain ⟨nh, od, ho, ⟨T0, S0, hT, m⟩, h, s, q⟩ := id hr
  have eh : jh_sz Hs = jx_hl X := h.2.2.1.trans h.2.1.symm
  have ep : jp_ln P = jx_tl X := by
    obtain ⟨t, -, b, c, -⟩ := q
    rw [b, c]
  exact ⟨_, Unit, fun _ => zwL g a p u ax N T F G Hs Q P X, 0, 0, Or.inl ⟨rfl, rfl⟩, _, _, Nat.le_refl _, Nat.le_refl _, jk_wide (jk_MC (jk_Z tl tm) (c_X4_count l D g (a 0) (a 1) (a 2) (a 3) (a 4) (a 5) (a 6) N p F Hs P vw) rfl) jk_Z.sub (fun o => o) [0, 1, 3, 6] [2, 4, 5, 7, 8, 9] (show (List.range 10).Perm _ by decide) (fun _ => rfl) rfl (fun _ => rfl) (fun _ => rfl), fun _ => ⟨p, u, N, T, F, G, Hs, Q, P, X, X, rfl, zw5 tl tm (c_X5_count l D g ax X vw) (by rw [an_count m ep eh vw]) p u N T F G Hs Q P, ri_up hr⟩⟩
theorem k_until : zwCase l D g tl tm a ax yX4_untilSpark wsX4_untilSpark 5 119 yX5_untilSpark wsX5_untilSpark 5 113 [] := by
  intro k p u N T F G Hs Q P X hk hr
  obtain ⟨nh, od, ho, m0, h, s, q⟩ := id hr
  obtain ⟨T0, S0, hT, m⟩ := id m0
  obtain ⟨e1, e2⟩ := an_until m hT T
  have c4 := c_X4_untilSpark l D g (a 0) (a 1) (a 2) (a 3) (a 4) (a 5) (a 6) N T
  have c5 := c_X5_untilSpark l D g ax X (rl_ok m0)
  generalize rX4_untilSpark N T = r4 at c4 e1
  generalize sX4_untilSpark_2 N T = t4 at c4
  generalize rX5_untilSpark X = r5 at c5 e1
  generalize sX5_untilSpark X = s5 at c5 e2
  exact ⟨_, Unit, fun _ => zwL g a p u ax N t4 F G Hs Q P X, 0, 0, Or.inl ⟨rfl, rfl⟩, _, _, Nat.le_refl _, Nat.le_refl _, jk_wide (jk_MC (jk_Z tl tm) c4 rfl) jk_Z.sub (fun o => o) [0, 1, 2] [3, 4, 5, 6, 7, 8, 9] (show (List.range 10).Perm _ by decide) (fun _ => rfl) rfl (fun _ => rfl) (fun _ => rfl), fun _ => ⟨p, u, N, _, F, G, Hs, Q, P, X, _, rfl, zw5 tl tm c5 (by rw [e1]) p u N _ F G Hs Q P, ri_bk hr e2⟩⟩
theorem k_ifT (vt vw : Int32) : zwCase l D g tl tm a ax yX4_ifTurned wsX4_ifTurned 6 140 yX5_ifTurned wsX5_ifTurned 5 113 [.int vt, .int vw] := by
  intro k p u N T F G Hs Q P X hk hr
  obtain ⟨nh, od, ho, m0, h, s, q⟩ := id hr
  obtain ⟨T0, S0, hT, m⟩ := id m0
  obtain ⟨e1, e2⟩ := an_ifT m hT T vt vw
  have c4 := c_X4_ifTurned l D g (a 0) (a 1) (a 2) (a 3) (a 4) (a 5) (a 6) N T vt vw
  have c5 := c_X5_ifTurned l D g ax X vt vw (rl_ok m0)
  generalize rX4_ifTurned N T vt vw = r4 at c4 e1
  generalize sX4_ifTurned_2 N T vt vw = t4 at c4
  generalize rX5_ifTurned X vt vw = r5 at c5 e1
  generalize sX5_ifTurned X vt vw = s5 at c5 e2
  exact ⟨_, Unit, fun _ => zwL g a p u ax N t4 F G Hs Q P X, 0, 0, Or.inl ⟨rfl, rfl⟩, _, _, Nat.le_refl _, Nat.le_refl _, jk_wide (jk_MC (jk_Z tl tm) c4 rfl) jk_Z.sub (fun o => o) [0, 1, 2] [3, 4, 5, 6, 7, 8, 9] (show (List.range 10).Perm _ by decide) (fun _ => rfl) rfl (fun _ => rfl) (fun _ => rfl), fun _ => ⟨p, u, N, _, F, G, Hs, Q, P, X, _, rfl, zw5 tl tm c5 (by rw [e1]) p u N _ F G Hs Q P, ri_bk hr e2⟩⟩
theorem k_look {y4 : MethodName} {ws4 : List Cond} {fr4 lo4 : Nat} {y5 : MethodName} {ws5 : List Cond} {fr5 lo5 : Nat} {As : List Value} {k : Nat} {p u : Nat → Nat → Nat} {N T : jm_T} {F G : jf_T} {Hs : jh_T} {Q : jd_T} {P : jp_T} {X : jx_T} {r4 r5 : Int32} {t4 : jm_T} {s5 : jx_T} (hr : zwR k N F G Hs P X) (c4 : jk_C l D g (jk_Z tl tm) y4 ws4 fr4 lo4 0 0 (.ref (a 0 0) :: As) (List.flatten [jo_X (a 0) (a 1 0) (a 2 0) (a 3 0) (a 4 0) (a 5 0) (a 6 0), jm_W g (a 1) N, jm_W g (a 2) T]) (some (.int r4)) (fun _ : Unit => List.flatten [jo_X (a 0) (a 1 0) (a 2 0) (a 3 0) (a 4 0) (a 5 0) (a 6 0), jm_W g (a 1) N, jm_W g (a 2) t4])) (c5 : jk_M l D g y5 ws5 fr5 lo5 (.ref (ax 0) :: As) (jx_W g ax X) (some (.int r5)) (jx_W g ax s5)) (e1 : r4 = r5) (e2 : xbk s5 X) :
    ∃ (r : Int32) (O : Type) (L4 : O → List va_W) (mc ms : Nat), ((mc = 0 ∧ ms = 0) ∨ (mc = 7 ∧ ms = 72)) ∧ ∃ (fr lo : Nat), fr ≤ fr4 ∧ lo ≤ lo4 ∧ jk_C l D g (jk_Z tl tm) y4 ws4 fr lo mc ms (.ref (a 0 0) :: As) (zwL g a p u ax N T F G Hs Q P X).flatten (some (.int r)) (fun o => (L4 o).flatten) ∧
      ∀ o, ∃ (p u : Nat → Nat → Nat) (N T : jm_T) (F G : jf_T) (Hs : jh_T) (Q : jd_T) (P : jp_T) (X X' : jx_T), L4 o = zwL g a p u ax N T F G Hs Q P X ∧ jk_C l D g (jk_Z tl tm) y5 ws5 fr5 lo5 0 0 (.ref (ax 0) :: As) (zwL g a p u ax N T F G Hs Q P X).flatten (some (.int r)) (fun _ : Unit => (zwL g a p u ax N T F G Hs Q P X').flatten) ∧ zwR (k + 1) N F G Hs P X' :=
  ⟨_, Unit, fun _ => zwL g a p u ax N t4 F G Hs Q P X, 0, 0, Or.inl ⟨rfl, rfl⟩, _, _, Nat.le_refl _, Nat.le_refl _, jk_wide c4 jk_Z.sub (fun o => o) [0, 1, 2] [3, 4, 5, 6, 7, 8, 9] (show (List.range 10).Perm _ by decide) (fun _ => rfl) rfl (fun _ => rfl) (fun _ => rfl), fun _ => ⟨p, u, N, _, F, G, Hs, Q, P, X, _, rfl, zw5 tl tm c5 (by rw [e1]) p u N _ F G Hs Q P, ri_bk hr e2⟩⟩
theorem k_gap : zwCase l D g tl tm a ax yX4_widestGap wsX4_widestGap 4 102 yX5_widestGap wsX5_widestGap 3 69 [] := by
  intro k p u N T F G Hs Q P X hk hr
  obtain ⟨nh, od, ho, m0, h, s, q⟩ := id hr
  obtain ⟨T0, S0, hT, m⟩ := id m0
  obtain ⟨e1, e2⟩ := an_gap m hT
  exact k_look l D g tl tm a ax hr (c_X4_widestGap l D g tl tm (a 0) (a 1) (a 2) (a 3) (a 4) (a 5) (a 6) N T) (c_X5_widestGap l D g ax X) e1 e2
theorem k_damp : zwCase l D g tl tm a ax yX4_mostDamp wsX4_mostDamp 5 119 yX5_mostDamp wsX5_mostDamp 5 113 [] := by
  intro k p u N T F G Hs Q P X hk hr
  obtain ⟨nh, od, ho, m0, h, s, q⟩ := id hr
  obtain ⟨T0, S0, hT, m⟩ := id m0
  obtain ⟨e1, e2⟩ := an_damp m hT T
  have c4 := c_X4_mostDamp l D g tl tm (a 0) (a 1) (a 2) (a 3) (a 4) (a 5) (a 6) N T
  have c5 := c_X5_mostDamp l D g ax X (rl_ok m0)
  generalize lc_md N 61 0 T = z4 at c4 e1
  generalize lx_md 61 X = z5 at c5 e1 e2
  exact ⟨_, Unit, fun _ => zwL g a p u ax N z4.2 F G Hs Q P X, 0, 0, Or.inl ⟨rfl, rfl⟩, _, _, Nat.le_refl _, Nat.le_refl _, jk_wide c4 jk_Z.sub (fun o => o) [0, 1, 2] [3, 4, 5, 6, 7, 8, 9] (show (List.range 10).Perm _ by decide) (fun _ => rfl) rfl (fun _ => rfl) (fun _ => rfl), fun _ => ⟨p, u, N, _, F, G, Hs, Q, P, X, _, rfl, zw5 tl tm c5 (by rw [e1]) p u N _ F G Hs Q P, ri_bk hr e2⟩⟩
theorem k_touch (vd vq vx : Int32) : zwCase l D g tl tm a ax yX4_touch wsX4_touch 4 125 yX5_touch wsX5_touch 2 45 [.int vd, .int vq, .int vx] := by
  intro k p u N T F G Hs Q P X hk hr
  obtain ⟨nh, od, ho, m0, h, s, q⟩ := id hr
  obtain ⟨T0, S0, hT, m⟩ := id m0
  obtain ⟨e1, e2⟩ := dd_ri hk ho m0 h s q (an_touch m hT Hs F nh vd vq vx)
  exact ⟨_, (Nat → Nat → Nat), fun o => zwL g a o u ax _ T _ G _ Q P X, 7, 72, Or.inr ⟨rfl, rfl⟩, _, _, Nat.le_refl _, Nat.le_refl _, jk_wide (jk_CZ (jk_Z tl tm) (c_X4_touch l D g (a 0) (a 1) (a 2) (a 3) (a 4) (a 5) (a 6) N p F Hs vd vq vx)) jk_Z.sub (fun o => o) [0, 1, 3, 7] [2, 4, 5, 6, 8, 9] (show (List.range 10).Perm _ by decide) (fun _ => rfl) rfl (fun _ => rfl) (fun _ => rfl), fun o => ⟨o, u, _, T, _, G, _, Q, P, X, _, rfl, zw5 tl tm (c_X5_touch l D g ax X vd vq vx nh h.1 h.2.1) (by rw [e1]) o u _ T _ G _ Q P, e2⟩⟩
theorem k_turn (vt : Int32) : zwCase l D g tl tm a ax yX4_turn wsX4_turn 6 140 yX5_turn wsX5_turn 5 113 [.int vt] := by
  intro k p u N T F G Hs Q P X hk hr
  obtain ⟨nh, od, ho, m0, h, s, q⟩ := id hr
  obtain ⟨T0, S0, hT, m⟩ := id m0
  obtain ⟨e1, e2⟩ := dd_ri hk ho m0 h s q (an_turn m hT Hs F nh vt)
  exact ⟨_, (Nat → Nat → Nat), fun o => zwL g a o u ax _ T _ G _ Q P X, 7, 72, Or.inr ⟨rfl, rfl⟩, _, _, Nat.le_refl _, Nat.le_refl _, jk_wide (jk_CZ (jk_Z tl tm) (c_X4_turn l D g (a 0) (a 1) (a 2) (a 3) (a 4) (a 5) (a 6) N p F Hs vt)) jk_Z.sub (fun o => o) [0, 1, 3, 7] [2, 4, 5, 6, 8, 9] (show (List.range 10).Perm _ by decide) (fun _ => rfl) rfl (fun _ => rfl) (fun _ => rfl), fun o => ⟨o, u, _, T, _, G, _, Q, P, X, _, rfl, zw5 tl tm (c_X5_turn l D g ax X vt nh h.1 h.2.1 (rl_ok m0)) (by rw [e1]) o u _ T _ G _ Q P, e2⟩⟩
theorem k_discharge : zwCase l D g tl tm a ax yX4_discharge wsX4_discharge 4 125 yX5_discharge wsX5_discharge 2 42 [] := by
  intro k p u N T F G Hs Q P X hk hr
  obtain ⟨nh, od, ho, m0, h, s, q⟩ := id hr
  obtain ⟨T0, S0, hT, m⟩ := id m0
  obtain ⟨e1, e2⟩ := dd_ri hk ho m0 h s q (an_discharge m hT Hs F nh)
  exact ⟨_, (Nat → Nat → Nat), fun o => zwL g a o u ax _ T _ G _ Q P X, 7, 72, Or.inr ⟨rfl, rfl⟩, _, _, Nat.le_refl _, Nat.le_refl _, jk_wide (jk_CZ (jk_Z tl tm) (c_X4_discharge l D g (a 0) (a 1) (a 2) (a 3) (a 4) (a 5) (a 6) N p F Hs)) jk_Z.sub (fun o => o) [0, 1, 3, 7] [2, 4, 5, 6, 8, 9] (show (List.range 10).Perm _ by decide) (fun _ => rfl) rfl (fun _ => rfl) (fun _ => rfl), fun o => ⟨o, u, _, T, _, G, _, Q, P, X, _, rfl, zw5 tl tm (c_X5_discharge l D g ax X nh h.1 h.2.1) (by rw [e1]) o u _ T _ G _ Q P, e2⟩⟩
theorem k_wipeDisc (vd : Int32) : zwCase l D g tl tm a ax yX4_wipeDisc wsX4_wipeDisc 4 125 yX5_wipeDisc wsX5_wipeDisc 1 21 [.int vd] := by
  intro k p u N T F G Hs Q P X hk hr
  obtain ⟨nh, od, ho, m0, h, s, q⟩ := id hr
  obtain ⟨T0, S0, hT, m⟩ := id m0
  obtain ⟨e1, e2⟩ := dd_ri hk ho m0 h s q (an_wipeDisc m hT Hs F nh vd)
  exact ⟨_, (Nat → Nat → Nat), fun o => zwL g a o u ax _ T _ G _ Q P X, 7, 72, Or.inr ⟨rfl, rfl⟩, _, _, Nat.le_refl _, Nat.le_refl _, jk_wide (jk_CZ (jk_Z tl tm) (c_X4_wipeDisc l D g (a 0) (a 1) (a 2) (a 3) (a 4) (a 5) (a 6) N p F Hs vd)) jk_Z.sub (fun o => o) [0, 1, 3, 7] [2, 4, 5, 6, 8, 9] (show (List.range 10).Perm _ by decide) (fun _ => rfl) rfl (fun _ => rfl) (fun _ => rfl), fun o => ⟨o, u, _, T, _, G, _, Q, P, X, _, rfl, zw5 tl tm (c_X5_wipeDisc l D g ax X vd nh h.1 h.2.1) (by rw [e1]) o u _ T _ G _ Q P, e2⟩⟩
theorem k_set (vi vv : Int32) : zwCase l D g tl tm a ax yX4_set wsX4_set 4 125 yX5_set wsX5_set 2 47 [.int vi, .int vv] := by
  intro k p u N T F G Hs Q P X hk hr
  obtain ⟨nh, od, ho, m0, h, s, q⟩ := id hr
  obtain ⟨T0, S0, hT, m⟩ := id m0
  obtain ⟨e1, e2⟩ := dd_ri hk ho m0 h s q (an_set m hT Hs F nh vi vv)
  exact ⟨_, (Nat → Nat → Nat), fun o => zwL g a o u ax _ T _ G _ Q P X, 7, 72, Or.inr ⟨rfl, rfl⟩, _, _, Nat.le_refl _, Nat.le_refl _, jk_wide (c_X4_set l D g tl tm (a 0) (a 1) (a 2) (a 3) (a 4) (a 5) (a 6) N p F Hs vi vv) jk_Z.sub (fun o => o) [0, 1, 3, 7] [2, 4, 5, 6, 8, 9] (show (List.range 10).Perm _ by decide) (fun _ => rfl) rfl (fun _ => rfl) (fun _ => rfl), fun o => ⟨o, u, _, T, _, G, _, Q, P, X, _, rfl, zw5 tl tm (c_X5_set l D g ax X vi vv nh h.1 h.2.1) (by rw [e1]) o u _ T _ G _ Q P, e2⟩⟩
end CASES
