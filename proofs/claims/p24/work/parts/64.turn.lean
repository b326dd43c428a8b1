/-! ===== a spark, a sign ===== -/
theorem bdd_ng {M : jm_T} (h : bdd M) : bdd (ng M) := by
  obtain ⟨h1, h2, h3⟩ := h
  refine ⟨h1, fun i hi => ?_, fun j hj => ?_⟩
  · have := h2 i hi
    show -99 ≤ (-jm_ch M i).toInt ∧ (-jm_ch M i).toInt ≤ 99
    rw [nq_T (by omega)]
    omega
  · have := h3 j hj
    have := h1.2.2.2.2
    show -(jm_se M 4).toInt ≤ (-jm_ja M j).toInt ∧ (-jm_ja M j).toInt ≤ (jm_se M 4).toInt
    rw [nq_T (by omega)]
    omega
theorem ja_sub {M : jm_T} (h : bdd M) : (jm_ja M 0 - jm_ja M 1).toInt = (jm_ja M 0).toInt - (jm_ja M 1).toInt ∧ -4000 ≤ (jm_ja M 0 - jm_ja M 1).toInt ∧ (jm_ja M 0 - jm_ja M 1).toInt ≤ 4000 := by
  have r0 := h.2.2 0 (by omega)
  have r1 := h.2.2 1 (by omega)
  have hh := h.1.2.2.2.2
  have e : (jm_ja M 0 - jm_ja M 1).toInt = (jm_ja M 0).toInt - (jm_ja M 1).toInt := jk_subT (by omega) (by omega)
  omega
theorem dif_T {M : jm_T} (h : bdd M) : (rX2_difference M).toInt = max ((jm_ja M 0).toInt - (jm_ja M 1).toInt) ((jm_ja M 1).toInt - (jm_ja M 0).toInt) := by
  obtain ⟨e, b1, b2⟩ := ja_sub h
  show (if 0 ≤ jm_ja M 0 - jm_ja M 1 then jm_ja M 0 - jm_ja M 1 else 0 - (jm_ja M 0 - jm_ja M 1)).toInt = _
  by_cases c : 0 ≤ jm_ja M 0 - jm_ja M 1
  · rw [if_pos c, e]
    rw [Int32.le_iff_toInt_le, Int32.toInt_zero, e] at c
    omega
  · rw [if_neg c, jk_subT (by rw [Int32.toInt_zero, e]; omega) (by rw [Int32.toInt_zero, e]; omega), e, Int32.toInt_zero]
    rw [Int32.le_iff_toInt_le, Int32.toInt_zero, e] at c
    omega
theorem ja_ng {M : jm_T} (h : bdd M) {j : Nat} (hj : j < 2) : (jm_ja (ng M) j).toInt = -(jm_ja M j).toInt := by
  have := h.2.2 j hj
  have := h.1.2.2.2.2
  exact nq_T (by omega)
theorem dif_ng {M : jm_T} (h : bdd M) : rX2_difference (ng M) = rX2_difference M := by
  refine Int32.toInt_inj.mp ?_
  rw [dif_T h, dif_T (bdd_ng h), ja_ng h (by omega), ja_ng h (by omega)]
  omega
theorem due_ng {M : jm_T} (h : bdd M) : rX2_isSparkDue (ng M) = rX2_isSparkDue M := by
  show (if rX2_difference (ng M) < 10 * jm_se M 2 then (0 : Int32) else 1) = (if rX2_difference M < 10 * jm_se M 2 then (0 : Int32) else 1)
  rw [dif_ng h]
theorem due_T {M : jm_T} (h : bdd M) (hd : ¬ rX2_isSparkDue M = 0) : 10 ≤ (jm_ja M 0).toInt - (jm_ja M 1).toInt ∨ 10 ≤ (jm_ja M 1).toInt - (jm_ja M 0).toInt := by
  have hd2 : ¬ rX2_difference M < 10 * jm_se M 2 := fun c => hd (if_pos c)
  rw [Int32.lt_iff_toInt_lt, dif_T h] at hd2
  have h10 : (10 : Int32).toInt = 10 := by decide
  have hg := h.1.2.2.1
  have e10 : (10 * jm_se M 2).toInt = 10 * (jm_se M 2).toInt := by rw [jk_mulT (by rw [h10]; omega) (by rw [h10]; omega), h10]
  rw [e10] at hd2
  omega
theorem jpN_ng {a b s : Int32} (ha : -2000 ≤ a.toInt ∧ a.toInt ≤ 2000) (hb : -2000 ≤ b.toInt ∧ b.toInt ≤ 2000) (hs : 0 ≤ s.toInt ∧ s.toInt ≤ 60) : jpN (-a) (-b) s = -jpN a b s := by
  have e1 : (a + b).toInt = a.toInt + b.toInt := jk_addT (by omega) (by omega)
  obtain ⟨f1, f2, f3⟩ := dvT (a := a + b) (b := 2) (B := 4000) (by omega) (by omega) (by omega) (by decide)
  have e2 : (a - (a + b) / 2).toInt = a.toInt - ((a + b) / 2).toInt := jk_subT (by omega) (by omega)
  have m := mulB (x := (a - (a + b) / 2).toInt) (g := s.toInt) (B := 6000) (G := 60) (by omega) hs (by omega)
  have e3 : ((a - (a + b) / 2) * s).toInt = (a - (a + b) / 2).toInt * s.toInt := jk_mulT (by omega) (by omega)
  unfold jpN
  rw [nq_add, nq_div (by omega) (by decide), nq_sub, nq_mul, nq_div (by omega) (by decide), nq_sub]
theorem jump_T {M : jm_T} (h : bdd M) {S : Nat} (hS : jm_sp M = nI S) (h6 : S < 1000000) (hd : ¬ rX2_isSparkDue M = 0) : stp M (sX2_letJump M) ∧ sX2_letJump (ng M) = ng (sX2_letJump M) ∧ jm_sp (sX2_letJump M) = nI (S + 1) ∧ jm_lo (sX2_letJump M) = upd (upd (upd (jm_lo M) (3 * (S % 8)) (jm_tu M)) (3 * (S % 8) + 1) (jm_ja M 0)) (3 * (S % 8) + 2) (jm_ja M 1) ∧ jm_ch (sX2_letJump M) = jm_ch M := by
  have hdT := due_T h hd
  have hh := h.1.2.2.2.2
  have q0 := h.2.2 0 (by omega)
  have q1 := h.2.2 1 (by omega)
  obtain ⟨r1, r2⟩ := jpr_T hh.2 q0 q1 hdT h.1.2.2.2.1
  have e1 := jump_eq hS h6
  have e2 : sX2_letJump (ng M) = jm_usp (jm_ulo (jm_uja (ng M) (upd (upd (ngf (jm_ja M)) 0 (jpN (-jm_ja M 0) (-jm_ja M 1) (jm_se M 3))) 1 (-jm_ja M 0 + -jm_ja M 1 - jpN (-jm_ja M 0) (-jm_ja M 1) (jm_se M 3)))) (upd (upd (upd (nglo (jm_lo M)) (3 * (S % 8)) (jm_tu M)) (3 * (S % 8) + 1) (-jm_ja M 0)) (3 * (S % 8) + 2) (-jm_ja M 1))) (jm_sp M + 1) := jump_eq (M := ng M) hS h6
  rw [e2, jpN_ng (by omega) (by omega) h.1.2.2.2.1, e1]
  generalize jpN (jm_ja M 0) (jm_ja M 1) (jm_se M 3) = x at r1 r2 ⊢
  refine ⟨⟨⟨h.1, h.2.1, rgj_upd (rgj_upd h.2.2 r1) r2⟩, rfl, rfl, rfl, rfl, ?_, ?_⟩, ?_, ?_, rfl, rfl⟩
  · show sm (jm_ch M) + (upd (upd (jm_ja M) 0 x) 1 (jm_ja M 0 + jm_ja M 1 - x) 0 + upd (upd (jm_ja M) 0 x) 1 (jm_ja M 0 + jm_ja M 1 - x) 1) + jm_lk M = sm (jm_ch M) + (jm_ja M 0 + jm_ja M 1) + jm_lk M
    rw [pk_us, pk_un (by omega), pk_us]
    grind
  · show upd (upd (jm_ja M) 0 x) 1 (jm_ja M 0 + jm_ja M 1 - x) 0 + upd (upd (jm_ja M) 0 x) 1 (jm_ja M 0 + jm_ja M 1 - x) 1 - (jm_tk M 0 + jm_tk M 1) + (jm_lj M 0 + jm_lj M 1) = jm_ja M 0 + jm_ja M 1 - (jm_tk M 0 + jm_tk M 1) + (jm_lj M 0 + jm_lj M 1)
    rw [pk_us, pk_un (by omega), pk_us]
    grind
  · have e3 : ng (jm_usp (jm_ulo (jm_uja M (upd (upd (jm_ja M) 0 x) 1 (jm_ja M 0 + jm_ja M 1 - x))) (upd (upd (upd (jm_lo M) (3 * (S % 8)) (jm_tu M)) (3 * (S % 8) + 1) (jm_ja M 0)) (3 * (S % 8) + 2) (jm_ja M 1))) (jm_sp M + 1)) = jm_usp (jm_ulo (jm_uja (ng M) (ngf (upd (upd (jm_ja M) 0 x) 1 (jm_ja M 0 + jm_ja M 1 - x)))) (nglo (upd (upd (upd (jm_lo M) (3 * (S % 8)) (jm_tu M)) (3 * (S % 8) + 1) (jm_ja M 0)) (3 * (S % 8) + 2) (jm_ja M 1)))) (jm_sp M + 1) := rfl
    rw [e3, nglo_upd, ngf_upd, ngf_upd, nq_add, nq_sub]
  · show jm_sp M + 1 = nI (S + 1)
    rw [hS, nI_1]
theorem sig_ng {x : Int32} (h : -2147483647 ≤ x.toInt) : rJ6_signum_0f7a4 (-x) = -rJ6_signum_0f7a4 x := by
  rw [sig_eq, sig_eq]
  have e := nq_T h
  by_cases c : x < 0
  · have c1 : ¬ -x < 0 := by
      rw [Int32.lt_iff_toInt_lt, Int32.toInt_zero] at c ⊢
      omega
    have c2 : ¬ -x = 0 := by
      intro z
      rw [z, Int32.toInt_zero] at e
      rw [Int32.lt_iff_toInt_lt, Int32.toInt_zero] at c
      omega
    rw [if_pos c, if_neg c1, if_neg c2]
    decide
  · rw [if_neg c]
    by_cases c2 : x = 0
    · subst c2
      decide
    · have c3 : x.toInt ≠ 0 := fun z => c2 (Int32.toInt_inj.mp z)
      have c1 : -x < 0 := by
        rw [Int32.lt_iff_toInt_lt, Int32.toInt_zero] at c ⊢
        omega
      rw [if_neg c2, if_pos c1]
theorem sign_ng {M : jm_T} (h : bdd M) : rX2_sign (ng M) = -rX2_sign M := by
  obtain ⟨e, b1, b2⟩ := ja_sub h
  show rJ6_signum_0f7a4 (-jm_ja M 0 - -jm_ja M 1) = -rJ6_signum_0f7a4 (jm_ja M 0 - jm_ja M 1)
  rw [nq_sub, sig_ng (by omega)]
theorem note_T {M : jm_T} (h : bdd M) : stp M (sX2_noteSign M) ∧ sX2_noteSign (ng M) = ng (sX2_noteSign M) ∧ jm_sp (sX2_noteSign M) = jm_sp M ∧ jm_lo (sX2_noteSign M) = jm_lo M ∧ jm_ch (sX2_noteSign M) = jm_ch M := by
  have e1 : sX2_noteSign M = if rX2_sign M = 0 then M else if rX2_sign M = -(jm_ls M) then jm_uls (jm_urv M (jm_rv M + 1)) (rX2_sign M) else jm_uls M (rX2_sign M) := rfl
  have e2 : sX2_noteSign (ng M) = if rX2_sign (ng M) = 0 then ng M else if rX2_sign (ng M) = -(-jm_ls M) then jm_uls (jm_urv (ng M) (jm_rv M + 1)) (rX2_sign (ng M)) else jm_uls (ng M) (rX2_sign (ng M)) := rfl
  rw [e2, sign_ng h, e1]
  generalize rX2_sign M = x
  by_cases c : x = 0
  · subst c
    rw [if_pos rfl, if_pos (by decide)]
    exact ⟨⟨h, rfl, rfl, rfl, rfl, rfl, rfl⟩, rfl, rfl, rfl, rfl⟩
  · have c' : ¬ -x = 0 := fun z => c (nq_inj (z.trans (by decide)))
    rw [if_neg c, if_neg c']
    by_cases c2 : x = -(jm_ls M)
    · rw [if_pos c2, if_pos (by rw [c2])]
      exact ⟨⟨h, rfl, rfl, rfl, rfl, rfl, rfl⟩, rfl, rfl, rfl, rfl⟩
    · rw [if_neg c2, if_neg (fun z => c2 (nq_inj z))]
      exact ⟨⟨h, rfl, rfl, rfl, rfl, rfl, rfl⟩, rfl, rfl, rfl, rfl⟩
/-! ===== a turn ===== -/
def stx (f : jm_T → jm_T) (M : jm_T) : Prop := stp M (f M) ∧ f (ng M) = ng (f M) ∧ jm_lo (f M) = jm_lo M ∧ jm_sp (f M) = jm_sp M
theorem stx.go {f g : jm_T → jm_T} {M : jm_T} (h : stx f M) (k : stx g (f M)) : stx (fun N => g (f N)) M :=
  ⟨h.1.tr k.1, by show g (f (ng M)) = ng (g (f M)); rw [h.2.1]; exact k.2.1, k.2.2.1.trans h.2.2.1, k.2.2.2.trans h.2.2.2⟩
theorem j0_T {M : jm_T} {T : Nat} (hT : jm_tu M = nI T) (h : bdd M) (h6 : T < 1000000) : stx sX2_join_0 M ∧ ∀ i, i ≠ sg T 2 → i ≠ sg T 8 → jm_ch (sX2_join_0 M) i = jm_ch M i := by
  have g := wA_T (h.2.1 _ (sg_lt T 2)) (h.2.1 _ (sg_lt T 8)) (h.2.1 _ (sg_lt T 14)) (h.2.1 _ (sg_lt T 20)) h.1.1
  have e1 : sX2_join_0 M = jnM M (sg T 2) (sg T 8) (wA (jm_ch M (sg T 2)) (jm_ch M (sg T 8)) (jm_ch M (sg T 14)) (jm_ch M (sg T 20)) (jm_se M 0)) := join0_eq hT h6
  have e2 : sX2_join_0 (ng M) = jnM (ng M) (sg T 2) (sg T 8) (wA (-jm_ch M (sg T 2)) (-jm_ch M (sg T 8)) (-jm_ch M (sg T 14)) (-jm_ch M (sg T 20)) (jm_se M 0)) := join0_eq (M := ng M) hT h6
  unfold stx
  rw [e2, g.2.2, e1]
  exact ⟨⟨jnM_stp h (sg_lt _ _) (sg_lt _ _) (fun z => absurd (sg_inj (by omega) (by omega) z) (by omega)) _, jnM_ng h (sg_lt _ _) (sg_lt _ _) ⟨g.1, g.2.1⟩, rfl, rfl⟩, fun i a b => (pk_un b).trans (pk_un a)⟩
theorem j1_T {M : jm_T} {T : Nat} (hT : jm_tu M = nI T) (h : bdd M) (h6 : T < 1000000) : stx sX2_join_1 M ∧ ∀ i, i ≠ sg T 16 → i ≠ sg T 22 → jm_ch (sX2_join_1 M) i = jm_ch M i := by
  have g := wA_T (h.2.1 _ (sg_lt T 16)) (h.2.1 _ (sg_lt T 22)) (h.2.1 _ (sg_lt T 4)) (h.2.1 _ (sg_lt T 10)) h.1.1
  have e1 : sX2_join_1 M = jnM M (sg T 16) (sg T 22) (wA (jm_ch M (sg T 16)) (jm_ch M (sg T 22)) (jm_ch M (sg T 4)) (jm_ch M (sg T 10)) (jm_se M 0)) := join1_eq hT h6
  have e2 : sX2_join_1 (ng M) = jnM (ng M) (sg T 16) (sg T 22) (wA (-jm_ch M (sg T 16)) (-jm_ch M (sg T 22)) (-jm_ch M (sg T 4)) (-jm_ch M (sg T 10)) (jm_se M 0)) := join1_eq (M := ng M) hT h6
  unfold stx
  rw [e2, g.2.2, e1]
  exact ⟨⟨jnM_stp h (sg_lt _ _) (sg_lt _ _) (fun z => absurd (sg_inj (by omega) (by omega) z) (by omega)) _, jnM_ng h (sg_lt _ _) (sg_lt _ _) ⟨g.1, g.2.1⟩, rfl, rfl⟩, fun i a b => (pk_un b).trans (pk_un a)⟩
theorem tk_stx {M : jm_T} (h : bdd M) {i j : Nat} (hi : i < 24) (hj : j < 2) : stx (fun N => tkM N i j) M := ⟨tkM_stp h hi hj, tkM_ng h hi hj, rfl, rfl⟩
theorem g0_T {M : jm_T} {T : Nat} (hT : jm_tu M = nI T) (h : bdd M) (h6 : T < 1000000) : stx sX2_gather_0 M ∧ ∀ i, i ≠ sg T 0 → i ≠ sg T 12 → jm_ch (sX2_gather_0 M) i = jm_ch M i := by
  have e1 : sX2_gather_0 M = tkM (tkM M (sg T 0) 0) (sg T 12) 0 := gather0_eq hT h6
  have e2 : sX2_gather_0 (ng M) = tkM (tkM (ng M) (sg T 0) 0) (sg T 12) 0 := gather0_eq (M := ng M) hT h6
  have a := tk_stx h (sg_lt T 0) (show 0 < 2 by omega)
  have b := stx.go a (tk_stx a.1.1 (sg_lt T 12) (show 0 < 2 by omega))
  unfold stx
  rw [e2, e1]
  exact ⟨b, fun i a b => (pk_un b).trans (pk_un a)⟩
theorem g1_T {M : jm_T} {T : Nat} (hT : jm_tu M = nI T) (h : bdd M) (h6 : T < 1000000) : stx sX2_gather_1 M ∧ ∀ i, i ≠ sg T 6 → i ≠ sg T 18 → jm_ch (sX2_gather_1 M) i = jm_ch M i := by
  have e1 : sX2_gather_1 M = tkM (tkM M (sg T 6) 1) (sg T 18) 1 := gather1_eq hT h6
  have e2 : sX2_gather_1 (ng M) = tkM (tkM (ng M) (sg T 6) 1) (sg T 18) 1 := gather1_eq (M := ng M) hT h6
  have a := tk_stx h (sg_lt T 6) (show 1 < 2 by omega)
  have b := stx.go a (tk_stx a.1.1 (sg_lt T 18) (show 1 < 2 by omega))
  unfold stx
  rw [e2, e1]
  exact ⟨b, fun i a b => (pk_un b).trans (pk_un a)⟩
theorem lk_T2 {M : jm_T} (h : bdd M) : (stp M (lp_lk M 24) ∧ lp_lk (ng M) 24 = ng (lp_lk M 24) ∧ jm_lo (lp_lk M 24) = jm_lo M ∧ jm_sp (lp_lk M 24) = jm_sp M) ∧ ∀ i, i < 24 → jm_ch (lp_lk M 24) i = lkv (jm_se M 1) (jm_ch M i) := by
  refine ⟨⟨lk_stp h, lk_ng h, ?_, ?_⟩, fun i hi => ?_⟩
  · rw [lp_lk_eq M 24 (Nat.le_refl _)]
    rfl
  · rw [lp_lk_eq M 24 (Nat.le_refl _)]
    rfl
  · rw [lp_lk_eq M 24 (Nat.le_refl _)]
    exact if_pos hi
theorem lj_T {M : jm_T} (h : bdd M) {j : Nat} (hj : j < 2) : stp M (lkM M j) ∧ lkM (ng M) j = ng (lkM M j) ∧ jm_lo (lkM M j) = jm_lo M ∧ jm_sp (lkM M j) = jm_sp M ∧ jm_ch (lkM M j) = jm_ch M := ⟨lkM_stp h hj, lkM_ng h hj, rfl, rfl, rfl⟩
/-- the places that neither brushes nor combs reach -/
def offc (c : Nat) : Prop := c ≠ 2 ∧ c ≠ 8 ∧ c ≠ 16 ∧ c ≠ 22 ∧ c ≠ 0 ∧ c ≠ 12 ∧ c ≠ 6 ∧ c ≠ 18
theorem ahead_eqN (M : jm_T) : sX2_turnAheadOfSpark (ng M) = lkM (lkM (lp_lk (sX2_gather_1 (sX2_gather_0 (sX2_join_1 (sX2_join_0 (ng (jm_utu M (jm_tu M + 1))))))) 24) 0) 1 := ahead_eq (ng M)
theorem ahead_T {M : jm_T} {T : Nat} (hT : jm_tu M = nI T) (h : bdd M) (h6 : T + 1 < 1000000) : stp (jm_utu M (nI (T + 1))) (sX2_turnAheadOfSpark M) ∧ sX2_turnAheadOfSpark (ng M) = ng (sX2_turnAheadOfSpark M) ∧ jm_lo (sX2_turnAheadOfSpark M) = jm_lo M ∧ jm_sp (sX2_turnAheadOfSpark M) = jm_sp M ∧ ∀ c, c < 24 → offc c → jm_ch (sX2_turnAheadOfSpark M) (sg (T + 1) c) = lkv (jm_se M 1) (jm_ch M (sg (T + 1) c)) := by
  have e : jm_tu M + 1 = nI (T + 1) := by rw [hT, nI_1]
  rw [ahead_eqN M, ahead_eq M, e]
  have hk : bdd (jm_utu M (nI (T + 1))) := h
  have e1 : jm_ch (jm_utu M (nI (T + 1))) = jm_ch M := rfl
  have e2 : jm_lo (jm_utu M (nI (T + 1))) = jm_lo M := rfl
  have e3 : jm_sp (jm_utu M (nI (T + 1))) = jm_sp M := rfl
  have e4 : jm_se (jm_utu M (nI (T + 1))) = jm_se M := rfl
  have e5 : jm_tu (jm_utu M (nI (T + 1))) = nI (T + 1) := rfl
  rw [← e1, ← e2, ← e3, ← e4]
  generalize jm_utu M (nI (T + 1)) = M1 at hk e5 ⊢
  obtain ⟨s1, c1⟩ := j0_T e5 hk h6
  have t1 : jm_tu (sX2_join_0 M1) = nI (T + 1) := s1.1.2.2.2.2.1.trans e5
  obtain ⟨s2, c2⟩ := j1_T t1 s1.1.1 h6
  have t2 : jm_tu (sX2_join_1 (sX2_join_0 M1)) = nI (T + 1) := s2.1.2.2.2.2.1.trans t1
  obtain ⟨s3, c3⟩ := g0_T t2 s2.1.1 h6
  have t3 : jm_tu (sX2_gather_0 (sX2_join_1 (sX2_join_0 M1))) = nI (T + 1) := s3.1.2.2.2.2.1.trans t2
  obtain ⟨s4, c4⟩ := g1_T t3 s3.1.1 h6
  have se : jm_se (sX2_gather_1 (sX2_gather_0 (sX2_join_1 (sX2_join_0 M1)))) = jm_se M1 := (((s1.1.tr s2.1).tr s3.1).tr s4.1).2.1
  have z1 := ((s1.1.tr s2.1).tr s3.1).tr s4.1
  have z2 : sX2_gather_1 (sX2_gather_0 (sX2_join_1 (sX2_join_0 (ng M1)))) = ng (sX2_gather_1 (sX2_gather_0 (sX2_join_1 (sX2_join_0 M1)))) := by rw [s1.2.1, s2.2.1, s3.2.1, s4.2.1]
  have z3 := s4.2.2.1.trans (s3.2.2.1.trans (s2.2.2.1.trans s1.2.2.1))
  have z4 := s4.2.2.2.trans (s3.2.2.2.trans (s2.2.2.2.trans s1.2.2.2))
  have z5 : ∀ c, c < 24 → offc c → jm_ch (sX2_gather_1 (sX2_gather_0 (sX2_join_1 (sX2_join_0 M1)))) (sg (T + 1) c) = jm_ch M1 (sg (T + 1) c) := by
    intro c hc ho
    obtain ⟨o1, o2, o3, o4, o5, o6, o7, o8⟩ := ho
    have off : ∀ d, d < 24 → c ≠ d → sg (T + 1) c ≠ sg (T + 1) d := fun d hd hn q => hn (sg_inj hc hd q)
    rw [c4 _ (off 6 (by omega) o7) (off 18 (by omega) o8), c3 _ (off 0 (by omega) o5) (off 12 (by omega) o6), c2 _ (off 16 (by omega) o3) (off 22 (by omega) o4), c1 _ (off 2 (by omega) o1) (off 8 (by omega) o2)]
  rw [z2]
  generalize sX2_gather_1 (sX2_gather_0 (sX2_join_1 (sX2_join_0 M1))) = X at z1 z3 z4 z5 se ⊢
  obtain ⟨⟨s5, n5, l5, p5⟩, c5⟩ := lk_T2 z1.1
  rw [n5]
  generalize lp_lk X 24 = Y at s5 l5 p5 c5 ⊢
  obtain ⟨s6, n6, l6, p6, k6⟩ := lj_T s5.1 (show 0 < 2 by omega)
  rw [n6]
  generalize lkM Y 0 = Z at s6 l6 p6 k6 ⊢
  obtain ⟨s7, n7, l7, p7, k7⟩ := lj_T s6.1 (show 1 < 2 by omega)
  rw [n7]
  generalize lkM Z 1 = U at s7 l7 p7 k7 ⊢
  refine ⟨((z1.tr s5).tr s6).tr s7, rfl, l7.trans (l6.trans (l5.trans z3)), p7.trans (p6.trans (p5.trans z4)), fun c hc ho => ?_⟩
  rw [k7, k6, c5 _ (sg_lt _ _), z5 c hc ho, se]
/-! ===== the log of sparks ===== -/
def lgi (S B : Nat) (lo : Nat → Int32) : Prop := ∃ t : Nat → Nat, (∀ j, j < S → S ≤ j + 8 → lo (3 * (j % 8)) = nI (t j)) ∧ (∀ j, j < S → 1 ≤ t j ∧ t j ≤ B) ∧ (∀ j, j + 1 < S → t j < t (j + 1))
theorem lgi.up {S B B' : Nat} {lo : Nat → Int32} (h : lgi S B lo) (hB : B ≤ B') : lgi S B' lo := by
  obtain ⟨t, h1, h2, h3⟩ := h
  exact ⟨t, h1, fun j hj => ⟨(h2 j hj).1, Nat.le_trans (h2 j hj).2 hB⟩, h3⟩
theorem lgi.jump {S T : Nat} {lo : Nat → Int32} (h : lgi S T lo) (a b : Int32) : lgi (S + 1) (T + 1) (upd (upd (upd lo (3 * (S % 8)) (nI (T + 1))) (3 * (S % 8) + 1) a) (3 * (S % 8) + 2) b) := by
  obtain ⟨t, h1, h2, h3⟩ := h
  refine ⟨fun j => if j = S then T + 1 else t j, fun j hj hw => ?_, fun j hj => ?_, fun j hj => ?_⟩
  · dsimp only
    rw [pk_un (by omega), pk_un (by omega)]
    by_cases c : j = S
    · subst c
      rw [pk_us, if_pos rfl]
    · rw [pk_un (by omega), if_neg c]
      exact h1 j (by omega) (by omega)
  · dsimp only
    by_cases c : j = S
    · rw [if_pos c]; omega
    · rw [if_neg c]
      have := h2 j (by omega)
      omega
  · dsimp only
    rw [if_neg (by omega)]
    by_cases c : j + 1 = S
    · rw [if_pos c]
      have := h2 j (by omega)
      omega
    · rw [if_neg c]
      exact h3 j (by omega)
theorem lgi_0 (lo : Nat → Int32) : lgi 0 0 lo := ⟨fun _ => 0, fun j hj => absurd hj (by omega), fun j hj => absurd hj (by omega), fun j hj => absurd hj (by omega)⟩
/-! ===== whole turns ===== -/
def Tst (K : Nat) (M : jm_T) : Prop := ∃ T S : Nat, T ≤ K ∧ S ≤ T ∧ jm_tu M = nI T ∧ jm_sp M = nI S ∧ bdd M ∧ tot M = jm_po M - jm_to M ∧ lgi S T (jm_lo M)
theorem Tst.up {K K' : Nat} {M : jm_T} (h : Tst K M) (hK : K ≤ K') : Tst K' M := by
  obtain ⟨T, S, h1, h2⟩ := h
  exact ⟨T, S, Nat.le_trans h1 hK, h2⟩
theorem once_eq (M : jm_T) : sX2_turnOnce M = if rX2_isSparkDue (sX2_turnAheadOfSpark M) = 0 then sX2_noteSign (sX2_turnAheadOfSpark M) else sX2_noteSign (sX2_letJump (sX2_turnAheadOfSpark M)) := rfl
theorem once_T {M : jm_T} {T S : Nat} (hT : jm_tu M = nI T) (hS : jm_sp M = nI S) (hST : S ≤ T) (h : bdd M) (hl : lgi S T (jm_lo M)) (h6 : T + 1 < 1000000) : ∃ S', S ≤ S' ∧ S' ≤ T + 1 ∧ stp (jm_utu M (nI (T + 1))) (sX2_turnOnce M) ∧ sX2_turnOnce (ng M) = ng (sX2_turnOnce M) ∧ jm_sp (sX2_turnOnce M) = nI S' ∧ lgi S' (T + 1) (jm_lo (sX2_turnOnce M)) ∧ jm_ch (sX2_turnOnce M) = jm_ch (sX2_turnAheadOfSpark M) := by
  obtain ⟨a1, a2, a3, a4, -⟩ := ahead_T hT h h6
  rw [once_eq, once_eq, a2]
  generalize sX2_turnAheadOfSpark M = N at a1 a3 a4 ⊢
  rw [due_ng a1.1]
  have tN : jm_tu N = nI (T + 1) := a1.2.2.2.2.1
  by_cases c : rX2_isSparkDue N = 0
  · rw [if_pos c, if_pos c]
    obtain ⟨n1, n2, n3, n4, n5⟩ := note_T a1.1
    refine ⟨S, Nat.le_refl _, by omega, a1.tr n1, n2, n3.trans (a4.trans hS), ?_, n5⟩
    rw [n4, a3]
    exact hl.up (by omega)
  · rw [if_neg c, if_neg c]
    obtain ⟨u1, u2, u3, u4, u5⟩ := jump_T a1.1 (a4.trans hS) (by omega) c
    obtain ⟨n1, n2, n3, n4, n5⟩ := note_T u1.1
    refine ⟨S + 1, by omega, by omega, (a1.tr u1).tr n1, by rw [u2]; exact n2, n3.trans u3, ?_, n5.trans u5⟩
    rw [n4, u4, a3, tN]
    exact hl.jump _ _
theorem once_K {K : Nat} {M : jm_T} (h : Tst K M) (h6 : K + 1 < 1000000) : Tst (K + 1) (sX2_turnOnce M) ∧ sX2_turnOnce (ng M) = ng (sX2_turnOnce M) ∧ jm_se (sX2_turnOnce M) = jm_se M ∧ jm_po (sX2_turnOnce M) = jm_po M ∧ jm_to (sX2_turnOnce M) = jm_to M ∧ jm_tu (sX2_turnOnce M) = jm_tu M + 1 ∧ jbl (sX2_turnOnce M) = jbl M := by
  obtain ⟨T, S, hK, hST, hT, hS, hb, ht, hl⟩ := h
  obtain ⟨S', -, b1, b2, b3, b4, b5, -⟩ := once_T hT hS hST hb hl (by omega)
  refine ⟨⟨T + 1, S', by omega, b1, b2.2.2.2.2.1, b4, b2.1, ?_, b5⟩, b3, b2.2.1, b2.2.2.1, b2.2.2.2.1, ?_, b2.2.2.2.2.2.2⟩
  · rw [b2.2.2.2.2.2.1, b2.2.2.1, b2.2.2.2.1]
    exact ht
  · rw [b2.2.2.2.2.1, hT, nI_1]
    rfl
theorem turn_K {K : Nat} {M : jm_T} (h : Tst K M) : ∀ n, K + n < 1000000 → Tst (K + n) (lp_turn M n) ∧ lp_turn (ng M) n = ng (lp_turn M n) ∧ jm_se (lp_turn M n) = jm_se M ∧ jm_po (lp_turn M n) = jm_po M ∧ jm_to (lp_turn M n) = jm_to M ∧ jm_tu (lp_turn M n) = jm_tu M + nI n ∧ lp_dif (ng M) n = lp_dif M n
  | 0, _ => ⟨h, rfl, rfl, rfl, rfl, by show jm_tu M = jm_tu M + 0; rw [Int32.add_zero], rfl⟩
  | n + 1, h6 => by
    obtain ⟨a1, a2, a3, a4, a5, a6, a7⟩ := turn_K h n (by omega)
    obtain ⟨b1, b2, b3, b4, b5, b6, -⟩ := once_K a1 (by omega)
    have e : lp_turn (ng M) (n + 1) = ng (lp_turn M (n + 1)) := by
      show sX2_turnOnce (lp_turn (ng M) n) = ng (sX2_turnOnce (lp_turn M n))
      rw [a2, b2]
    refine ⟨b1, e, b3.trans a3, b4.trans a4, b5.trans a5, ?_, ?_⟩
    · rw [show jm_tu (lp_turn M (n + 1)) = jm_tu (lp_turn M n) + 1 from b6, a6, Int32.add_assoc, nI_1]
    · show (if lp_dif (ng M) n < rX2_difference (lp_turn (ng M) (n + 1)) then rX2_difference (lp_turn (ng M) (n + 1)) else lp_dif (ng M) n) = _
      obtain ⟨-, -, -, -, -, -, hb, -⟩ := b1
      rw [a7, e, show rX2_difference (ng (lp_turn M (n + 1))) = rX2_difference (lp_turn M (n + 1)) from dif_ng hb]
      rfl
/-! ===== turns ahead of sparks ===== -/
def Ast (K : Nat) (M : jm_T) : Prop := ∃ T : Nat, T ≤ K ∧ jm_tu M = nI T ∧ bdd M
theorem Tst.ast {K : Nat} {M : jm_T} (h : Tst K M) : Ast K M := by
  obtain ⟨T, S, h1, -, h3, -, h5, -⟩ := h
  exact ⟨T, h1, h3, h5⟩
theorem ahead_K {K : Nat} {M : jm_T} (h : Ast K M) (h6 : K + 1 < 1000000) : Ast (K + 1) (sX2_turnAheadOfSpark M) ∧ sX2_turnAheadOfSpark (ng M) = ng (sX2_turnAheadOfSpark M) := by
  obtain ⟨T, h1, h2, h3⟩ := h
  obtain ⟨a1, a2, -⟩ := ahead_T h2 h3 (by omega)
  exact ⟨⟨T + 1, by omega, a1.2.2.2.2.1, a1.1⟩, a2⟩
theorem aheads_K {K : Nat} {M : jm_T} (h : Ast K M) : ∀ n, K + n < 1000000 → Ast (K + n) (lp_ahead M n) ∧ lp_ahead (ng M) n = ng (lp_ahead M n) ∧ lc_wid (ng M) n = lc_wid M n
  | 0, _ => ⟨h, rfl, rfl⟩
  | n + 1, h6 => by
    obtain ⟨a1, a2, a3⟩ := aheads_K h n (by omega)
    obtain ⟨b1, b2⟩ := ahead_K a1 (by omega)
    obtain ⟨-, -, -, hb⟩ := id b1
    refine ⟨b1, ?_, ?_⟩
    · show sX2_turnAheadOfSpark (lp_ahead (ng M) n) = ng (sX2_turnAheadOfSpark (lp_ahead M n))
      rw [a2, b2]
    · show (if lc_wid (ng M) n < rX2_difference (sX2_turnAheadOfSpark (lp_ahead (ng M) n)) then rX2_difference (sX2_turnAheadOfSpark (lp_ahead (ng M) n)) else lc_wid (ng M) n) = _
      rw [a2, a3, b2, dif_ng hb]
      rfl
theorem spark_K : ∀ (n K : Nat) (M : jm_T) (i : Int32), Ast K M → K + n < 1000000 → lp_spark n (ng M) i = ((lp_spark n M i).1, ng (lp_spark n M i).2)
  | 0, _, _, _, _, _ => rfl
  | n + 1, K, M, i, h, h6 => by
    obtain ⟨b1, b2⟩ := ahead_K h (by omega)
    obtain ⟨-, -, -, hb⟩ := id b1
    rw [lp_spark, lp_spark, b2, due_ng hb]
    by_cases c : rX2_isSparkDue (sX2_turnAheadOfSpark M) = 0
    · rw [if_pos c, if_pos c]
      exact spark_K n (K + 1) _ _ b1 (by omega)
    · rw [if_neg c, if_neg c]
theorem dp_K {K : Nat} {M : jm_T} (h : Ast K M) {k : Nat} (hk : k ≤ 60) : Ast K (lc_dp M k) := by
  obtain ⟨T, h1, h2, h3, h4, h5⟩ := h
  refine ⟨T, h1, h2, ⟨h3.1, ?_, h3.2.2.1, h3.2.2.2.1, h3.2.2.2.2⟩, h4, h5⟩
  have e := lc_md_to (k := k) (by omega)
  show 0 ≤ (upd (jm_se M) 1 (jz_hi 1 - nI k) 1).toInt ∧ (upd (jm_se M) 1 (jz_hi 1 - nI k) 1).toInt ≤ 60
  rw [pk_us, e]
  omega
theorem md_K {K : Nat} {M : jm_T} (h : Ast K M) (h6 : K + 200 < 1000000) : ∀ (n k : Nat) (X Y : jm_T), k + n = 61 → (lc_md (ng M) n k Y).1 = (lc_md M n k X).1
  | 0, _, _, _, _ => rfl
  | n + 1, k, X, Y, hk => by
    have d := dp_K h (k := k) (by omega)
    have e : (200 : Int32).toNatClampNeg = 200 := by decide
    have s : lp_spark 200 (lc_dp (ng M) k) 1 = ((lp_spark 200 (lc_dp M k) 1).1, ng (lp_spark 200 (lc_dp M k) 1).2) := spark_K 200 K (lc_dp M k) 1 d h6
    rw [lc_md, lc_md, e, s]
    dsimp only
    by_cases c : (lp_spark 200 (lc_dp M k) 1).1 = -1000006
    · rw [if_pos c, if_pos c]
      exact md_K h h6 n (k + 1) _ _ (by omega)
    · rw [if_neg c, if_neg c]
