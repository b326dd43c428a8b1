/-! ===== the deeds of a text are done ===== -/
theorem pr_touch_z {T : Nat → Int32} {t q d k d' x : Nat} {z : Int32} (h : (pr_touch T t q d).2 = some (k, d', x, z)) : -99 ≤ z.toInt ∧ z.toInt ≤ 99 := by
  unfold pr_touch at h
  cases h1 : pr_num T t 0 11 q with
  | none => rw [h1] at h; cases h
  | some pq =>
    obtain ⟨p, q1⟩ := pq
    rw [h1] at h
    dsimp only at h
    by_cases c1 : pr_is T t q1 61 = true
    · rw [if_pos c1] at h
      cases h2 : pr_num T t 0 99 (if pr_is T t (q1 + 1) 45 = true then q1 + 2 else q1 + 1) with
      | none => rw [h2] at h; cases h
      | some nq =>
        obtain ⟨n, q2⟩ := nq
        have n9 := (pr_num_le (by omega) h2).2.2.1
        rw [h2] at h
        have ez : z = if pr_is T t (q1 + 1) 45 = true then -nI n else nI n := by
          cases h
          rfl
        have en : (nI n).toInt = n := nI_toInt (by omega)
        rw [ez]
        by_cases c2 : pr_is T t (q1 + 1) 45 = true
        · rw [if_pos c2, Int32.toInt_neg, en]
          rw [Int.bmod_eq_of_le (by omega) (by omega)]
          omega
        · rw [if_neg c2, en]
          omega
    · rw [if_neg c1] at h
      cases h
theorem pr_all {T : Nat → Int32} {t q k d x : Nat} {z : Int32} (h : (pr_deed T t q).2 = some (k, d, x, z)) : (k = 0 ∧ d < 2 ∧ x < 12 ∧ -99 ≤ z.toInt ∧ z.toInt ≤ 99) ∨ (k = 1 ∧ 1 ≤ x ∧ x ≤ 99) ∨ k = 2 := by
  unfold pr_deed at h
  by_cases c1 : pr_is T t q 120 = true
  · rw [if_pos c1] at h
    cases h
    exact Or.inr (Or.inr rfl)
  · rw [if_neg c1] at h
    by_cases c2 : pr_is T t q 46 = true
    · rw [if_pos c2] at h
      cases h2 : pr_num T t 1 99 (q + 1) with
      | none => rw [h2] at h; cases h
      | some nq =>
        obtain ⟨n, q2⟩ := nq
        have g := pr_num_le (by omega) h2
        rw [h2] at h
        cases h
        exact Or.inr (Or.inl ⟨rfl, g.1, g.2.2.1⟩)
    · rw [if_neg c2] at h
      by_cases c3 : pr_is T t q 102 = true
      · rw [if_pos c3] at h
        obtain ⟨e0, e, g⟩ := pr_touch_some h
        have gz := pr_touch_z h
        exact Or.inl ⟨e0, by omega, by omega, gz⟩
      · rw [if_neg c3] at h
        by_cases c4 : pr_is T t q 98 = true
        · rw [if_pos c4] at h
          obtain ⟨e0, e, g⟩ := pr_touch_some h
          have gz := pr_touch_z h
          exact Or.inl ⟨e0, by omega, by omega, gz⟩
        · rw [if_neg c4] at h; cases h
theorem run_deed {N : jm_T} {A : jx_T} {Q : jd_T} {q k d x : Nat} {z r r' nu le pl cg : Int32} (m : mrB N (jx_al A)) (hp : pd_ok (some (k, d, x, z)) r (jd_de Q) (jd_di Q) (jd_pl Q) (jd_am Q)) (hr : rp_ok (some (k, d, x, z)) r' nu le pl cg) (hb : (k = 0 ∧ d < 2 ∧ x < 12 ∧ -99 ≤ z.toInt ∧ z.toInt ≤ 99) ∨ (k = 1 ∧ 1 ≤ x ∧ x ≤ 99) ∨ k = 2) : mrB (sX4_doReadDeed_1 N Q) (jx_al (sX5_does (jx_ru A q nu le pl cg))) ∧ rX5_does (jx_ru A q nu le pl cg) = jm_sp (sX4_doReadDeed_1 N Q) - jm_sp N := by
  obtain ⟨T, S, hT, h⟩ := m
  have h' : mrF T S N (jx_al (jx_ru A q nu le pl cg)) := h
  have eL : jx_le (jx_ru A q nu le pl cg) = le := rfl
  have eN : jx_nu (jx_ru A q nu le pl cg) = nu := rfl
  have eP : jx_pl (jx_ru A q nu le pl cg) = pl := rfl
  have eC : jx_cg (jx_ru A q nu le pl cg) = cg := rfl
  have eA : jx_al (jx_ru A q nu le pl cg) = jx_al A := rfl
  generalize jx_ru A q nu le pl cg = X at h' eL eN eP eC eA ⊢
  obtain ⟨-, p1, p2, p3, -⟩ := hp
  have hr2 := hr.2
  unfold sX4_doReadDeed_1 sX5_does rX5_does
  dsimp only
  rw [eL, eN, eP, eC, p1]
  rcases hb with ⟨k0, hd, hx, hz⟩ | ⟨k1, hx⟩ | k2
  · obtain ⟨f1, f2, f3⟩ := p2 k0
    have g : ¬ le = 46 ∧ ¬ le = 120 ∧ (if le = 102 then (0 : Int32) else 1) = nI d ∧ pl = nI x ∧ cg = z := by
      rcases hr2 with w | w | w
      · exact absurd w.1 (by omega)
      · exact absurd w.1 (by omega)
      · exact w.2
    obtain ⟨g1, g2, g3, g4, g5⟩ := g
    have e0 : nI k = 0 := by rw [k0]; rfl
    rw [if_neg g1, if_neg g1, if_neg g2, if_neg g2, if_pos e0, g3, g4, g5, f1, f2, f3]
    obtain ⟨s1, s2⟩ := st_put h' (by omega) hd hx hz
    refine ⟨⟨T, S, hT, s1⟩, ?_⟩
    have es : jm_sp (sX2_putCharge N (nI d) (nI x) z) = jm_sp N := rfl
    rw [es, Int32.sub_self]
  · have f1 := p3 k1
    have g : le = 46 ∧ nu = nI x := by
      rcases hr2 with w | w | w
      · exact absurd w.1 (by omega)
      · exact w.2
      · exact absurd w.1 (by omega)
    obtain ⟨g1, g2⟩ := g
    have e0 : ¬ nI k = 0 := by rw [k1]; decide
    have e2 : ¬ nI k = 2 := by rw [k1]; decide
    rw [if_pos g1, if_pos g1, if_neg e0, if_neg e2, g2, f1]
    obtain ⟨q1, q2⟩ := left_iff h' hT (show x < 1000000 by omega)
    by_cases c : T + x ≤ 99999
    · have k1 : ¬ rX2_hasTurnsLeft N (nI x) = 0 := fun z => q1.mp z c
      have k2 := q2.mpr c
      obtain ⟨t1, t2, t3⟩ := st_told h' c
      rw [if_neg k1, if_pos k2, if_pos k2, jk_cl (by omega)]
      exact ⟨t2, t1⟩
    · have k1 := q1.mpr c
      have k2 : ¬ jx_al X 5 + nI x ≤ 99999 := fun z => c (q2.mp z)
      rw [if_pos k1, if_neg k2, if_neg k2, Int32.sub_self]
      exact ⟨⟨T, S, hT, h'⟩, rfl⟩
  · have g : le = 120 := by
      rcases hr2 with w | w | w
      · exact w.2
      · exact absurd w.1 (by omega)
      · exact absurd w.1 (by omega)
    have g0 : ¬ le = 46 := by rw [g]; decide
    have e0 : ¬ nI k = 0 := by rw [k2]; decide
    have e2 : nI k = 2 := by rw [k2]; rfl
    rw [if_neg g0, if_neg g0, if_pos g, if_pos g, if_neg e0, if_pos e2]
    obtain ⟨s1, s2⟩ := st_dis h'
    refine ⟨⟨T, S, hT, s1⟩, ?_⟩
    have es : jm_sp (sX2_emptyJars N) = jm_sp N := rfl
    rw [es, Int32.sub_self]
/-- all but the row, its copy and what is being read -/
def xsm (A B : jx_T) : Prop := jx_hi A = jx_hi B ∧ jx_sl A = jx_sl B ∧ jx_sv A = jx_sv B ∧ jx_tx A = jx_tx B ∧ jx_hl A = jx_hl B ∧ jx_tl A = jx_tl B
theorem xsm_rfl (A : jx_T) : xsm A A := ⟨rfl, rfl, rfl, rfl, rfl, rfl⟩
theorem xsm_tr {A B C : jx_T} (h : xsm A B) (k : xsm B C) : xsm A C := ⟨h.1.trans k.1, h.2.1.trans k.2.1, h.2.2.1.trans k.2.2.1, h.2.2.2.1.trans k.2.2.2.1, h.2.2.2.2.1.trans k.2.2.2.2.1, h.2.2.2.2.2.trans k.2.2.2.2.2⟩
theorem xsm_ru (A : jx_T) (q : Nat) (a b c d : Int32) : xsm (jx_ru A q a b c d) A := ⟨rfl, rfl, rfl, rfl, rfl, rfl⟩
theorem xsm_ual (A : jx_T) (f : Nat → Int32) : xsm (jx_ual A f) A := ⟨rfl, rfl, rfl, rfl, rfl, rfl⟩
theorem tel2 (acc a b c : Int32) : acc + (b - a) + (c - b) = acc + (c - a) := by
  rw [Int32.add_assoc, tele]
theorem rl_end {P : jp_T} {t : Nat} (ht : jp_ln P = nI t) (h60 : t ≤ 60) (m : Nat) (N : jm_T) (a b c d : Int32) : (lc_rl P m N (jdq t a b c d)).1 = N := by
  cases m with
  | zero => rfl
  | succ m =>
    obtain ⟨de, di, pl, am, e1, e2⟩ := pp_deed (P := P) (a := a) (b := b) (c := c) (d := d) ht h60 (Nat.le_refl t)
    have ge : (pr_deed (jp_sg P) t t).2 = none := by
      cases hz : (pr_deed (jp_sg P) t t).2 with
      | none => rfl
      | some z =>
        have := deed_adv (Nat.le_refl t) hz
        have := (pr_deed_le (T := jp_sg P) (Nat.le_refl t)).2
        omega
    rw [ge] at e2
    have e3 : rX0_readDeed (jdq t a b c d) P = 0 := e2
    rw [lc_rl, if_pos e3]
theorem rn_eq {P : jp_T} {t : Nat} (ht : jp_ln P = nI t) (h60 : t ≤ 60) : ∀ (n m q : Nat) (N : jm_T) (A : jx_T) (acc a b c d a5 b5 c5 d5 : Int32), jx_tl A = nI t → (∀ j, j < t → jp_sg P j = jx_tx A j) → q ≤ t → pr_fault (jx_tx A) t n q = -1000006 → t + 2 ≤ q + 2 * m → mrB N (jx_al A) → (lx_rn n (jx_ru A q a5 b5 c5 d5) acc).1 = acc + (jm_sp (lc_rl P m N (jdq q a b c d)).1 - jm_sp N) ∧ mrB (lc_rl P m N (jdq q a b c d)).1 (jx_al (lx_rn n (jx_ru A q a5 b5 c5 d5) acc).2) ∧ xsm (lx_rn n (jx_ru A q a5 b5 c5 d5) acc).2 A
  | 0, _, _, _, _, _, _, _, _, _, _, _, _, _, _, _, _, h, _, _ => absurd (show (0 : Int32) = -1000006 from h) (by decide)
  | n + 1, 0, q, _, _, _, _, _, _, _, _, _, _, _, _, _, hq, _, hm, _ => absurd hm (by omega)
  | n + 1, m + 1, q, N, A, acc, a, b, c, d, a5, b5, c5, d5, htA, hT, hq, hf, hm, mr => by
    obtain ⟨de, di, pl, am, e1, e2⟩ := pp_deed (P := P) (a := a) (b := b) (c := c) (d := d) ht h60 hq
    obtain ⟨a', b', c', d', f1, f2⟩ := rp_deed (N := A) (a := a5) (b := b5) (c := c5) (d := d5) htA h60 hq
    have ge := pr_deed_le (T := jx_tx A) hq
    have ad := fun z => deed_adv (T := jx_tx A) (z := z) hq
    have al := fun k d x z => pr_all (T := jx_tx A) (t := t) (q := q) (k := k) (d := d) (x := x) (z := z)
    rw [pr_deed_congr hT q] at e1 e2
    unfold pr_fault at hf
    rw [lx_rn, lc_rl, e1, f1]
    generalize pr_deed (jx_tx A) t q = D at e1 e2 f1 f2 ge ad al hf ⊢
    obtain ⟨q1, o⟩ := D
    have ge2 : q1 ≤ t := ge.2
    cases o with
    | none => exact absurd hf (nI_ne_none (by omega))
    | some z =>
      obtain ⟨k, dd, x, z⟩ := z
      have e3 : ¬ rX0_readDeed (jdq q a b c d) P = 0 := e2.1
      have ad2 : q + 1 ≤ q1 := ad _ rfl
      have bd := al k dd x z rfl
      rw [if_neg e3]
      dsimp only at hf ⊢
      obtain ⟨s1, s2⟩ := run_deed (q := q1) (Q := jdq q1 de di pl am) mr e2 f2 bd
      obtain ⟨f, ef⟩ := jo_does (jx_ru A q1 a' b' c' d')
      rw [s2]
      rw [ef, ru_ual] at s1 ⊢
      generalize sX4_doReadDeed_1 N (jdq q1 de di pl am) = N2 at s1 ⊢
      have s1' : mrB N2 (jx_al (jx_ual A f)) := s1
      have htB : jx_tl (jx_ual A f) = nI t := htA
      obtain ⟨o1, o2⟩ := rp_one (N := jx_ual A f) (q := q1) (a := a') (b := b') (c := c') (d := d') (v := 59) htB h60 ge2
      have eis : pr_is (jp_sg P) t q1 59 = pr_is (jx_tx A) t q1 59 := pr_is_congr hT q1 59
      by_cases c1 : pr_is (jx_tx A) t q1 59 = true
      · obtain ⟨w1, w2⟩ := o1 c1
        obtain ⟨r1, r2⟩ := rs_y (P := P) (a := de) (b := di) (d := pl) (e := am) ht h60 ge2 (eis.trans c1)
        have l := (pr_is_lt c1).1
        rw [if_pos c1] at hf
        have n1 : ¬ (1 : Int32) = 0 := by decide
        rw [w1, w2, r2, if_neg n1]
        obtain ⟨i1, i2, i3⟩ := rn_eq ht h60 n m (q1 + 1) N2 (jx_ual A f) (acc + (jm_sp N2 - jm_sp N)) de di pl am a' b' c' d' htB hT (by omega) hf (by omega) s1'
        refine ⟨?_, i2, xsm_tr i3 (xsm_ual A f)⟩
        rw [i1, tel2]
      · obtain ⟨w1, w2⟩ := o2 c1
        obtain ⟨r1, r2⟩ := rs_n (P := P) (a := de) (b := di) (d := pl) (e := am) ht h60 ge2 (by decide) (fun z => c1 (eis.symm.trans z))
        rw [if_neg c1] at hf
        have q1t : q1 = t := by
          by_cases k2 : q1 = t
          · exact k2
          · rw [if_neg k2] at hf
            exact absurd hf (nI_ne_none (by omega))
        rw [w1, w2, r2, if_pos rfl, q1t, rl_end ht h60]
        exact ⟨rfl, s1', xsm_tr (xsm_ru (jx_ual A f) t a' b' c' d') (xsm_ual A f)⟩
