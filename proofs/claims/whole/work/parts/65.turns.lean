/-! ===== whole turns ===== -/
def mrF (T S : Nat) (M : jm_T) (f : Nat → Int32) : Prop := mrA T S M f ∧ f 7 = jm_rv M ∧ f 8 = jm_ls M
theorem mrA_congr {T S : Nat} {M : jm_T} {f f' : Nat → Int32} (h : mrA T S M f) (e : ∀ j, j < 67 → f' j = f j) : mrA T S M f' := by
  obtain ⟨h1, h2, h3, h4, h5, h6, h7, h8, h9⟩ := h
  exact ⟨h1, fun i hi => (e i (by omega)).trans (h2 i hi), ⟨(e 5 (by omega)).trans h3.1, (e 6 (by omega)).trans h3.2.1, (e 9 (by omega)).trans h3.2.2.1, (e 10 (by omega)).trans h3.2.2.2.1, (e 11 (by omega)).trans h3.2.2.2.2⟩, fun c hc => (e _ (by omega)).trans (h4 c hc), fun j hj => ⟨(e _ (by omega)).trans (h5 j hj).1, (e _ (by omega)).trans (h5 j hj).2.1, (e _ (by omega)).trans (h5 j hj).2.2⟩, ⟨(e 12 (by omega)).trans h6.1, fun k hk w hw => (e _ (by omega)).trans (h6.2 k hk w hw)⟩, h7, h8, h9⟩
theorem mrF_congr {T S : Nat} {M : jm_T} {f f' : Nat → Int32} (h : mrF T S M f) (e : ∀ j, j < 67 → f' j = f j) : mrF T S M f' := ⟨mrA_congr h.1 e, (e 7 (by omega)).trans h.2.1, (e 8 (by omega)).trans h.2.2⟩
theorem mrA_78 {T S : Nat} {M : jm_T} {f : Nat → Int32} (h : mrA T S M f) (a b : Int32) : mrA T S M (upd (upd f 7 a) 8 b) := by
  obtain ⟨h1, h2, h3, h4, h5, h6, h7, h8, h9⟩ := h
  exact ⟨h1, mrs_off (mrs_off h2 (by omega)) (by omega), mrn_off (mrn_off h3 (by omega) (by omega) (by omega) (by omega) (by omega)) (by omega) (by omega) (by omega) (by omega) (by omega), mrc_off (mrc_off h4 (by omega)) (by omega), mrj_off (mrj_off h5 (by omega)) (by omega), mrl_off (mrl_off h6 (by omega) (by omega)) (by omega) (by omega), h7, h8, h9⟩
theorem lkF_off (f : Nat → Int32) (i : Nat) {j : Nat} (hj : j < 13) (h9 : j ≠ 9) : lkF f i j = f j := by
  unfold lkF
  rw [pk_un h9, pk_un (by omega), pk_un (by omega)]
theorem tkF_off (f : Nat → Int32) (c i : Nat) {j : Nat} (hj : j < 13) : tkF f c i j = f j := by
  unfold tkF
  rw [pk_un (by omega), pk_un (by omega), pk_un (by omega)]
theorem J0F_off (f : Nat → Int32) {j : Nat} (hj : j < 13) : J0F f j = f j := by
  unfold J0F
  rw [pk_un (by omega), pk_un (by omega)]
theorem J1F_off (f : Nat → Int32) {j : Nat} (hj : j < 13) : J1F f j = f j := by
  unfold J1F
  rw [pk_un (by omega), pk_un (by omega)]
theorem dt_off (f : Nat → Int32) {j : Nat} (hj : j < 13) (h5 : j ≠ 5) : jx_al (sX5_discsTurn (jx_ual jx_0 (upd f 5 (f 5 + 1)))) j = f j := by
  unfold sX5_discsTurn
  show upd (upd (upd (upd (upd (upd (upd (upd (upd (upd (upd (upd (upd (upd (upd (upd (upd (upd (upd (upd (upd (upd (upd (upd (upd f 5 _) 24 _) 23 _) 22 _) 21 _) 20 _) 19 _) 18 _) 17 _) 16 _) 15 _) 14 _) 13 _) 25 _) 26 _) 27 _) 28 _) 29 _) 30 _) 31 _) 32 _) 33 _) 34 _) 35 _) 36 _ j = f j
  repeat rw [pk_un (by omega)]
theorem charges_off (X : jx_T) {j : Nat} (hj : j < 13) (h5 : j ≠ 5) (h9 : j ≠ 9) : jx_al (sX5_charges X) j = jx_al X j := by
  rw [charges_eq, lkF_off _ _ hj h9, lkF_off _ _ hj h9, lx_lk_off _ h9 (Or.inl hj) 24 (Nat.le_refl _), tkF_off _ _ _ hj, tkF_off _ _ _ hj, tkF_off _ _ _ hj, tkF_off _ _ _ hj, J1F_off _ hj, J0F_off _ hj, dt_off _ hj h5]
theorem sparks_off {T S : Nat} {M : jm_T} {X : jx_T} (h : mrA T S M (jx_al X)) (h6 : S < 1000000) {j : Nat} (hj : j < 13) (hj6 : j ≠ 6) (hj12 : j ≠ 12) : jx_al (sX5_sparks X) j = jx_al X j := by
  obtain ⟨-, g2⟩ := st_log (X := X) rfl h.2.2.2.2.2.1 h6 _ _ _ rfl rfl rfl
  unfold sX5_sparks
  dsimp only
  by_cases c : 10 * jx_al X 2 ≤ rX5_difference X
  · rw [if_pos c, row_al, pk_un (by omega), pk_un (by omega), pk_un hj6, g2 j (by omega) hj12]
  · rw [if_neg c]
theorem sparks_no {T S : Nat} {M : jm_T} {X : jx_T} (h : mrA T S M (jx_al X)) (hd : rX2_isSparkDue M = 0) : sX5_sparks X = X := if_neg ((due_iff h).mp hd)
theorem rv_j0 (M : jm_T) : jm_rv (sX2_join_0 M) = jm_rv M := rfl
theorem rv_j1 (M : jm_T) : jm_rv (sX2_join_1 M) = jm_rv M := rfl
theorem rv_g0 (M : jm_T) : jm_rv (sX2_gather_0 M) = jm_rv M := rfl
theorem rv_g1 (M : jm_T) : jm_rv (sX2_gather_1 M) = jm_rv M := rfl
theorem rv_lkM (M : jm_T) (j : Nat) : jm_rv (lkM M j) = jm_rv M := rfl
theorem rv_lp (M : jm_T) : jm_rv (lp_lk M 24) = jm_rv M := by
  rw [lp_lk_eq M 24 (Nat.le_refl _)]
  rfl
theorem rv_jump (M : jm_T) : jm_rv (sX2_letJump M) = jm_rv M := rfl
theorem ls_j0 (M : jm_T) : jm_ls (sX2_join_0 M) = jm_ls M := rfl
theorem ls_j1 (M : jm_T) : jm_ls (sX2_join_1 M) = jm_ls M := rfl
theorem ls_g0 (M : jm_T) : jm_ls (sX2_gather_0 M) = jm_ls M := rfl
theorem ls_g1 (M : jm_T) : jm_ls (sX2_gather_1 M) = jm_ls M := rfl
theorem ls_lkM (M : jm_T) (j : Nat) : jm_ls (lkM M j) = jm_ls M := rfl
theorem ls_lp (M : jm_T) : jm_ls (lp_lk M 24) = jm_ls M := by
  rw [lp_lk_eq M 24 (Nat.le_refl _)]
  rfl
theorem ls_jump (M : jm_T) : jm_ls (sX2_letJump M) = jm_ls M := rfl
theorem ahead_rv (M : jm_T) : jm_rv (sX2_turnAheadOfSpark M) = jm_rv M ∧ jm_ls (sX2_turnAheadOfSpark M) = jm_ls M := by
  rw [ahead_eq, rv_lkM, rv_lkM, rv_lp, rv_g1, rv_g0, rv_j1, rv_j0, ls_lkM, ls_lkM, ls_lp, ls_g1, ls_g0, ls_j1, ls_j0]
  exact ⟨rfl, rfl⟩
theorem sign_eq {T S : Nat} {M : jm_T} {X : jx_T} (h : mrA T S M (jx_al X)) : rX5_sign X = rX2_sign M := by
  have a0 : jx_al X 37 = jm_ja M 0 := (h.2.2.2.2.1 0 (by omega)).1
  have a1 : jx_al X 38 = jm_ja M 1 := (h.2.2.2.2.1 1 (by omega)).1
  have r0 := h.2.2.2.2.2.2.2.2 0 (by omega)
  have r1 := h.2.2.2.2.2.2.2.2 1 (by omega)
  have hh := h.2.2.2.2.2.2.1.2.2.2.2
  have e : (jm_ja M 0 - jm_ja M 1).toInt = (jm_ja M 0).toInt - (jm_ja M 1).toInt := jk_subT (by omega) (by omega)
  show _ = rJ6_signum_0f7a4 (jm_ja M 0 - jm_ja M 1)
  unfold rX5_sign
  rw [a0, a1, sig_eq]
  have z : jm_ja M 0 - jm_ja M 1 = 0 ↔ (jm_ja M 0).toInt = (jm_ja M 1).toInt := by
    rw [← Int32.toInt_inj, e, Int32.toInt_zero]
    omega
  by_cases c : jm_ja M 0 ≤ jm_ja M 1
  · rw [if_pos c]
    rw [Int32.le_iff_toInt_le] at c
    by_cases c2 : jm_ja M 1 ≤ jm_ja M 0
    · rw [if_pos c2]
      rw [Int32.le_iff_toInt_le] at c2
      rw [if_neg (by rw [Int32.lt_iff_toInt_lt, e, Int32.toInt_zero]; omega), if_pos (z.mpr (by omega))]
    · rw [if_neg c2]
      rw [Int32.le_iff_toInt_le] at c2
      rw [if_pos (by rw [Int32.lt_iff_toInt_lt, e, Int32.toInt_zero]; omega)]
  · rw [if_neg c]
    rw [Int32.le_iff_toInt_le] at c
    rw [if_neg (by rw [Int32.lt_iff_toInt_lt, e, Int32.toInt_zero]; omega), if_neg (fun q => by have := z.mp q; omega)]
theorem note_eq (M : jm_T) : sX2_noteSign M = jm_uls (jm_urv M (jm_rv M + (if rX2_sign M = 0 then 0 else if jm_ls M = -(rX2_sign M) then 1 else 0))) (if rX2_sign M = 0 then jm_ls M else rX2_sign M) := by
  unfold sX2_noteSign
  dsimp only
  by_cases c : rX2_sign M = 0
  · rw [if_pos c, if_pos c, if_pos c, Int32.add_zero]
    rfl
  · rw [if_neg c, if_neg c, if_neg c]
    by_cases c2 : jm_ls M = -(rX2_sign M)
    · rw [if_pos (by rw [c2, Int32.neg_neg]), if_pos c2]
    · rw [if_neg (fun q => c2 (by rw [q, Int32.neg_neg])), if_neg c2, Int32.add_zero]
      rfl
theorem turns_al (X : jx_T) : jx_al (sX5_turns X) = upd (upd (jx_al (sX5_sparks (sX5_charges X))) 7 (jx_al (sX5_sparks (sX5_charges X)) 7 + (if rX5_sign (sX5_sparks (sX5_charges X)) = 0 then 0 else if jx_al (sX5_sparks (sX5_charges X)) 8 = -(rX5_sign (sX5_sparks (sX5_charges X))) then 1 else 0))) 8 (if rX5_sign (sX5_sparks (sX5_charges X)) = 0 then jx_al (sX5_sparks (sX5_charges X)) 8 else rX5_sign (sX5_sparks (sX5_charges X))) := rfl
theorem st_note {T S : Nat} {M : jm_T} {X : jx_T} (h : mrA T S M (jx_al X)) (e7 : jx_al X 7 = jm_rv M) (e8 : jx_al X 8 = jm_ls M) : mrF T S (sX2_noteSign M) (upd (upd (jx_al X) 7 (jx_al X 7 + (if rX5_sign X = 0 then 0 else if jx_al X 8 = -(rX5_sign X) then 1 else 0))) 8 (if rX5_sign X = 0 then jx_al X 8 else rX5_sign X)) := by
  rw [note_eq, sign_eq h, e7, e8]
  have h2 := mrA_78 h (jm_rv M + (if rX2_sign M = 0 then 0 else if jm_ls M = -(rX2_sign M) then 1 else 0)) (if rX2_sign M = 0 then jm_ls M else rX2_sign M)
  refine ⟨h2, ?_, ?_⟩
  · rw [pk_un (by omega), pk_us]
    rfl
  · rw [pk_us]
    rfl
theorem stA_turns {T S : Nat} {M : jm_T} {X : jx_T} (h : mrA T S M (jx_al X)) (h6 : T + 1 < 1000000) : (rX2_isSparkDue (sX2_turnAheadOfSpark M) = 0 → mrA (T + 1) S (sX2_turnAheadOfSpark M) (jx_al (sX5_turns X))) ∧ (¬ rX2_isSparkDue (sX2_turnAheadOfSpark M) = 0 → mrA (T + 1) (S + 1) (sX2_letJump (sX2_turnAheadOfSpark M)) (jx_al (sX5_turns X))) := by
  have h1 := st_ahead h h6
  have hST := h.1.2.2
  refine ⟨fun hd => ?_, fun hd => ?_⟩
  · rw [turns_al, sparks_no h1 hd]
    exact mrA_78 h1 _ _
  · rw [turns_al]
    exact mrA_78 (st_spark h1 (by omega) (by omega) hd) _ _
theorem st_once {T S : Nat} {M : jm_T} {X : jx_T} (h : mrF T S M (jx_al X)) (h6 : T + 1 < 1000000) : ∃ S', S ≤ S' ∧ S' ≤ S + 1 ∧ mrF (T + 1) S' (sX2_turnOnce M) (jx_al (sX5_turns X)) := by
  have h1 := st_ahead h.1 h6
  have hST := h.1.1.2.2
  obtain ⟨v1, v2⟩ := ahead_rv M
  have e7 : jx_al (sX5_charges X) 7 = jm_rv (sX2_turnAheadOfSpark M) := by rw [charges_off X (by omega) (by omega) (by omega), v1]; exact h.2.1
  have e8 : jx_al (sX5_charges X) 8 = jm_ls (sX2_turnAheadOfSpark M) := by rw [charges_off X (by omega) (by omega) (by omega), v2]; exact h.2.2
  unfold sX2_turnOnce
  dsimp only
  rw [turns_al]
  by_cases c : rX2_isSparkDue (sX2_turnAheadOfSpark M) = 0
  · rw [if_pos c, sparks_no h1 c]
    exact ⟨S, Nat.le_refl _, by omega, st_note h1 e7 e8⟩
  · rw [if_neg c]
    have h2 := st_spark h1 (by omega) (by omega) c
    exact ⟨S + 1, by omega, Nat.le_refl _, st_note h2 ((sparks_off h1 (by omega) (by omega) (by omega) (by omega)).trans (e7.trans (rv_jump _).symm)) ((sparks_off h1 (by omega) (by omega) (by omega) (by omega)).trans (e8.trans (ls_jump _).symm))⟩
theorem st_turns {T S : Nat} {M : jm_T} {X : jx_T} (h : mrF T S M (jx_al X)) : ∀ k, T + k < 1000000 → ∃ S', S ≤ S' ∧ S' ≤ S + k ∧ mrF (T + k) S' (lp_turn M k) (jx_al (lx_turn X k))
  | 0, _ => ⟨S, Nat.le_refl _, Nat.le_refl _, h⟩
  | k + 1, h6 => by
    obtain ⟨S1, a1, a2, a3⟩ := st_turns h k (by omega)
    obtain ⟨S2, b1, b2, b3⟩ := st_once a3 (by omega)
    exact ⟨S2, by omega, by omega, b3⟩
theorem mr_sp {T S : Nat} {M : jm_T} {f : Nat → Int32} (h : mrA T S M f) : f 6 = jm_sp M := by rw [h.1.2.1, h.2.2.1.2.1]
theorem mr_tu {T S : Nat} {M : jm_T} {f : Nat → Int32} (h : mrA T S M f) : f 5 = jm_tu M := by rw [h.1.1, h.2.2.1.1]
/-! ===== what turns would bring ===== -/
theorem until_eq : ∀ (n T S i : Nat) (M : jm_T) (X : jx_T), mrA T S M (jx_al X) → T + n + 1 < 1000000 → i + n + 1 < 1000000 → (lp_spark n M (nI (i + 1))).1 = if (lx_next (nI S) (n + 1) X (nI i)).1 ≤ nI (i + n) then (lx_next (nI S) (n + 1) X (nI i)).1 else -1000006
  | 0, T, S, i, M, X, h, h6, hi => by
    have e : lx_next (nI S) (0 + 1) X (nI i) = (nI i + 1, sX5_turns X) := by
      rw [lx_next, if_pos h.2.2.1.2.1]
      rfl
    rw [e, nI_1, if_neg (nI_ge (by omega) (by omega))]
    rfl
  | n + 1, T, S, i, M, X, h, h6, hi => by
    obtain ⟨g1, g2⟩ := stA_turns h (by omega)
    have e : lx_next (nI S) (n + 1 + 1) X (nI i) = lx_next (nI S) (n + 1) (sX5_turns X) (nI (i + 1)) := by
      rw [lx_next, if_pos h.2.2.1.2.1, nI_1]
    rw [e, lp_spark]
    by_cases c : rX2_isSparkDue (sX2_turnAheadOfSpark M) = 0
    · rw [if_pos c, nI_1, until_eq n (T + 1) S (i + 1) _ (sX5_turns X) (g1 c) (by omega) (by omega), show i + 1 + n = i + (n + 1) by omega]
    · rw [if_neg c]
      have h2 := g2 c
      have hST := h.1.2.2
      have e2 : lx_next (nI S) (n + 1) (sX5_turns X) (nI (i + 1)) = (nI (i + 1), sX5_turns X) := by
        rw [lx_next, if_neg]
        rw [h2.2.2.1.2.1, nI_eq (by omega) (by omega)]
        omega
      rw [e2, if_pos (nI_le (by omega) (by omega))]
theorem wid_eq {T S : Nat} {N : jm_T} {X : jx_T} (h : mrA T S N (jx_al X)) : ∀ k, T + k < 1000000 → lc_wid N k = lx_wid X k ∧ mrA (T + k) S (lp_ahead N k) (jx_al (lx_char X k))
  | 0, _ => ⟨rfl, h⟩
  | k + 1, h6 => by
    obtain ⟨e1, e2⟩ := wid_eq h k (by omega)
    have e3 := st_ahead e2 (by omega)
    refine ⟨?_, e3⟩
    have e4 : rX5_difference (lx_char X (k + 1)) = rX2_difference (sX2_turnAheadOfSpark (lp_ahead N k)) := dif_eq e3
    rw [lc_wid, lx_wid, e4, e1]
    by_cases c : lx_wid X k < rX2_difference (sX2_turnAheadOfSpark (lp_ahead N k))
    · rw [if_pos c, if_neg (Int32.not_le.mpr c)]
    · rw [if_neg c, if_pos (Int32.not_lt.mp c)]
theorem difk_eq {T S : Nat} {N : jm_T} {X : jx_T} (h : mrF T S N (jx_al X)) : ∀ k, T + k < 1000000 → lp_dif N k = lx_dif X k
  | 0, _ => rfl
  | k + 1, h6 => by
    have e1 := difk_eq h k (by omega)
    obtain ⟨S', -, -, e3⟩ := st_turns h (k + 1) h6
    have e4 : rX5_difference (lx_turn X (k + 1)) = rX2_difference (sX2_turnOnce (lp_turn N k)) := dif_eq e3.1
    rw [lp_dif, lx_dif, e4, e1]
    by_cases c : lx_dif X k < rX2_difference (sX2_turnOnce (lp_turn N k))
    · rw [if_pos c, if_neg (Int32.not_le.mpr c)]
    · rw [if_neg c, if_pos (Int32.not_lt.mp c)]
theorem tele (a b c : Int32) : b - c + (a - b) = a - c := by
  rw [Int32.sub_eq_add_neg, Int32.sub_eq_add_neg a b, Int32.sub_eq_add_neg a c, Int32.add_comm b, Int32.add_comm a (-b), ← Int32.add_assoc, Int32.add_assoc (-c) b, Int32.add_right_neg, Int32.add_zero, Int32.add_comm]
theorem jmp_eq (X : jx_T) : ∀ k, lx_jmp X k = jx_al (lx_turn X k) 6 - jx_al X 6
  | 0 => (Int32.sub_self _).symm
  | k + 1 => by
    rw [lx_jmp, jmp_eq X k]
    show jx_al (lx_turn X k) 6 - jx_al X 6 + (jx_al (lx_turn X (k + 1)) 6 - jx_al (lx_turn X k) 6) = _
    exact tele _ _ _
/-! ===== sums over discs ===== -/
theorem fo_split {α : Type} (op : α → Int32 → α) (z : α) (v : Nat → Int32) (a : Nat) : ∀ b, fo op z v (a + b) = fo op (fo op z v a) (fun i => v (a + i)) b
  | 0 => rfl
  | b + 1 => by
    show op (fo op z v (a + b)) (v (a + b)) = op (fo op (fo op z v a) (fun i => v (a + i)) b) (v (a + b))
    rw [fo_split op z v a b]
theorem lx_sum_fo (f : Nat → Int32) (z : Int32) : ∀ k, k ≤ 24 → lx_sum f z k = fo (fun a x => a + x) z (fun c => f (13 + c)) k
  | 0, _ => rfl
  | k + 1, hk => by
    show lx_sum f z k + f (nI (13 + k)).toNatClampNeg = fo (fun a x => a + x) z (fun c => f (13 + c)) k + f (13 + k)
    rw [lx_sum_fo f z k (by omega), jk_cl (by omega)]
theorem fi_0 : rX2_firstIndexOf 0 = nI 0 := rfl
theorem fi_1 : rX2_firstIndexOf 1 = nI 12 := rfl
theorem lp_sum_fo (f : Nat → Int32) (b : Nat) (hb : b ≤ 12) : ∀ k, k ≤ 12 → lp_sum f (nI b) k = fo (fun a x => a + x) 0 (fun i => f (b + i)) k
  | 0, _ => rfl
  | k + 1, hk => by
    show lp_sum f (nI b) k + f (nI b + nI k).toNatClampNeg = fo (fun a x => a + x) 0 (fun i => f (b + i)) k + f (b + k)
    rw [lp_sum_fo f b hb k (by omega), nI_add, jk_cl (by omega)]
theorem all_eq {T S : Nat} {M : jm_T} {X : jx_T} (h : mrA T S M (jx_al X)) : rX5_allCharge X = rX2_chargeOfAll M := by
  have a0 : jx_al X 37 = jm_ja M 0 := (h.2.2.2.2.1 0 (by omega)).1
  have a1 : jx_al X 38 = jm_ja M 1 := (h.2.2.2.2.1 1 (by omega)).1
  have e : fo (fun a x => a + x) 0 (fun c => jx_al X (13 + c)) 24 = fo (fun a x => a + x) 0 (jm_ch M) 24 := by
    rw [fo_congr _ 0 (w := fun c => jm_ch M (sg T c)) 24 (fun c hc => h.2.2.2.1 c hc)]
    exact fo_perm (fun a x y => addrc a x y) 0 (jm_ch M) (sg T) 24 (pm24 T)
  have s1 : fo (fun a x => a + x) 0 (jm_ch M) 24 = lp_sum (jm_ch M) (nI 0) 12 + lp_sum (jm_ch M) (nI 12) 12 := by
    rw [lp_sum_fo _ 0 (by omega) 12 (by omega), lp_sum_fo _ 12 (by omega) 12 (by omega), show (24 : Nat) = 12 + 12 from rfl, fo_split]
    have := fo_add (fo (fun a x => a + x) 0 (jm_ch M) 12) 0 (fun i => jm_ch M (12 + i)) 12
    rw [Int32.add_zero] at this
    rw [this, fo_congr _ 0 (w := fun i => jm_ch M (0 + i)) 12 (fun k _ => by rw [Nat.zero_add])]
  unfold rX5_allCharge rX2_chargeOfAll
  dsimp only
  rw [fi_0, fi_1, lx_sum_fo _ _ 24 (by omega), a0, a1, ← s1, ← e]
  have := fo_add (jm_ja M 0 + jm_ja M 1) 0 (fun c => jx_al X (13 + c)) 24
  rw [Int32.add_zero] at this
  rw [this, Int32.add_comm, ← Int32.add_assoc]
