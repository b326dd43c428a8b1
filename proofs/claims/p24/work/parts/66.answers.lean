/-! ===== answers about discs ===== -/
theorem sgn_ng {f : Nat → Int32} (h : rgc f) {d : Nat} (hd : d < 2) : ∀ k, k ≤ 12 → lp_sgn (ngf f) (nI (12 * d)) 1 k = lp_sgn f (nI (12 * d)) (-1) k ∧ lp_sgn (ngf f) (nI (12 * d)) (-1) k = lp_sgn f (nI (12 * d)) 1 k
  | 0, _ => ⟨rfl, rfl⟩
  | k + 1, hk => by
    obtain ⟨i1, i2⟩ := sgn_ng h hd k (by omega)
    have r := h (12 * d + k) (by omega)
    have e : rJ6_signum_0f7a4 (ngf f (12 * d + k)) = -rJ6_signum_0f7a4 (f (12 * d + k)) := sig_ng (by omega)
    have a : ∀ x : Int32, -x = 1 ↔ x = -1 := fun x => ⟨fun q => nq_inj (q.trans (by decide)), fun q => by rw [q]; decide⟩
    have b : ∀ x : Int32, -x = -1 ↔ x = 1 := fun x => ⟨fun q => nq_inj q, fun q => by rw [q]⟩
    rw [lp_sgn, lp_sgn, lp_sgn, lp_sgn, ldz hd (by omega), e, i1, i2]
    refine ⟨?_, ?_⟩
    · by_cases c : rJ6_signum_0f7a4 (f (12 * d + k)) = -1
      · rw [if_pos c, if_pos ((a _).mpr c)]
      · rw [if_neg c, if_neg (fun q => c ((a _).mp q))]
    · by_cases c : rJ6_signum_0f7a4 (f (12 * d + k)) = 1
      · rw [if_pos c, if_pos ((b _).mpr c)]
      · rw [if_neg c, if_neg (fun q => c ((b _).mp q))]
theorem max_T {f : Nat → Int32} (h : rgc f) {d : Nat} (hd : d < 2) : ∀ k, k ≤ 12 → (-99 ≤ (lp_max f (nI (12 * d)) k).toInt ∧ (lp_max f (nI (12 * d)) k).toInt ≤ 99) ∧ (-99 ≤ (lp_min f (nI (12 * d)) k).toInt ∧ (lp_min f (nI (12 * d)) k).toInt ≤ 99)
  | 0, _ => by
    show (-99 ≤ (-99 : Int32).toInt ∧ (-99 : Int32).toInt ≤ 99) ∧ (-99 ≤ (99 : Int32).toInt ∧ (99 : Int32).toInt ≤ 99)
    decide
  | k + 1, hk => by
    obtain ⟨i1, i2⟩ := max_T h hd k (by omega)
    have r := h (12 * d + k) (by omega)
    rw [lp_max, lp_min, ldz hd (by omega), mx_T, mn_T]
    omega
theorem max_ng {f : Nat → Int32} (h : rgc f) {d : Nat} (hd : d < 2) : ∀ k, k ≤ 12 → (lp_max (ngf f) (nI (12 * d)) k).toInt = -(lp_min f (nI (12 * d)) k).toInt ∧ (lp_min (ngf f) (nI (12 * d)) k).toInt = -(lp_max f (nI (12 * d)) k).toInt
  | 0, _ => by
    show (-99 : Int32).toInt = -(99 : Int32).toInt ∧ (99 : Int32).toInt = -(-99 : Int32).toInt
    decide
  | k + 1, hk => by
    obtain ⟨i1, i2⟩ := max_ng h hd k (by omega)
    have r := h (12 * d + k) (by omega)
    have e : (ngf f (12 * d + k)).toInt = -(f (12 * d + k)).toInt := nq_T (by omega)
    rw [lp_max, lp_min, lp_max, lp_min, ldz hd (by omega), mx_T, mn_T, mx_T, mn_T, e, i1, i2]
    omega
theorem max_0 {f : Nat → Int32} {d : Nat} (hd : d < 2) (h : ∀ i, 12 * d ≤ i → i < 12 * d + 12 → f i = 0) : ∀ k, k < 12 → (lp_max f (nI (12 * d)) (k + 1)).toInt = 0 ∧ (lp_min f (nI (12 * d)) (k + 1)).toInt = 0
  | 0, _ => by
    rw [lp_max, lp_min, ldz hd (by omega), mx_T, mn_T, h _ (by omega) (by omega)]
    show max (-99 : Int32).toInt (Int32.toInt 0) = 0 ∧ min (99 : Int32).toInt (Int32.toInt 0) = 0
    decide
  | k + 1, hk => by
    obtain ⟨i1, i2⟩ := max_0 hd h k (by omega)
    rw [lp_max, lp_min, ldz hd (by omega), mx_T, mn_T, h _ (by omega) (by omega), i1, i2, Int32.toInt_zero]
    exact ⟨by decide, by decide⟩
theorem fo_cnt (v : Nat → Int32) : ∀ k, ∃ m, m ≤ k ∧ fo (fun a x => a + (if x = 0 then (0 : Int32) else 1)) 0 v k = nI m
  | 0 => ⟨0, Nat.le_refl _, rfl⟩
  | k + 1 => by
    obtain ⟨m, h1, h2⟩ := fo_cnt v k
    by_cases c : v k = 0
    · refine ⟨m, by omega, ?_⟩
      show fo (fun a x => a + (if x = 0 then (0 : Int32) else 1)) 0 v k + (if v k = 0 then (0 : Int32) else 1) = nI m
      rw [if_pos c, h2, Int32.add_zero]
    · refine ⟨m + 1, by omega, ?_⟩
      show fo (fun a x => a + (if x = 0 then (0 : Int32) else 1)) 0 v k + (if v k = 0 then (0 : Int32) else 1) = nI (m + 1)
      rw [if_neg c, h2, nI_1]
theorem cnt_12 (f : Nat → Int32) {d : Nat} (hd : d < 2) : ∃ m, m ≤ 12 ∧ lp_sgn f (nI (12 * d)) 1 12 + lp_sgn f (nI (12 * d)) (-1) 12 = nI m := by
  rw [sgn1_fo f hd 12 (Nat.le_refl _), sgnm_fo f hd 12 (Nat.le_refl _), cnt_fo]
  exact fo_cnt _ 12
theorem disc_ng {N : jm_T} (h : bdd N) {d : Nat} (hd : d < 2) : rX4_disc (ng N) (nI d) 0 = -rX4_disc N (nI d) 0 ∧ rX4_disc (ng N) (nI d) 1 = rX4_disc N (nI d) 2 ∧ rX4_disc (ng N) (nI d) 2 = rX4_disc N (nI d) 1 ∧ rX4_disc (ng N) (nI d) 3 = -rX4_disc N (nI d) 4 ∧ rX4_disc (ng N) (nI d) 4 = -rX4_disc N (nI d) 3 := by
  obtain ⟨a0, a1, a2, a3, a4⟩ := disc_at N hd
  obtain ⟨b0, b1, b2, b3, b4⟩ := disc_at (ng N) hd
  have s := sgn_ng h.2.1 hd 12 (Nat.le_refl _)
  have m := max_ng h.2.1 hd 12 (Nat.le_refl _)
  have t := max_T h.2.1 hd 12 (Nat.le_refl _)
  rw [a0, a1, a2, a3, a4, b0, b1, b2, b3, b4, fid hd]
  refine ⟨fo_neg _ 12, s.1, s.2, Int32.toInt_inj.mp ?_, Int32.toInt_inj.mp ?_⟩
  · rw [nq_T (by omega)]
    exact m.1
  · rw [nq_T (by omega)]
    exact m.2
/-! ===== a machine is well ===== -/
theorem ch12 : (12 : Int32).toInt = 12 := by decide
theorem c99 : (99 : Int32).toInt = 99 ∧ (-99 : Int32).toInt = -99 := by decide
theorem well_acc {K : Nat} {N : jm_T} (h : Tst K N) (Hs : jh_T) (P : jp_T) : rX4_count N Hs P 9 = rX4_count N Hs P 11 - rX4_count N Hs P 12 - rX4_count N Hs P 10 ∧ rX4_count N Hs P 9 = rX4_disc N 0 0 + rX4_disc N 1 0 + rX4_jar N 0 0 + rX4_jar N 1 0 := by
  obtain ⟨T, S, -, -, -, -, -, h7, -⟩ := h
  refine ⟨?_, rfl⟩
  show rX2_chargeOfAll N = jm_po N - jm_to N - jm_lk N
  unfold tot at h7
  rw [coa_at]
  grind
theorem well_sign {K : Nat} {N : jm_T} (h : Tst K N) (Hs : jh_T) (P : jp_T) : (rX4_jar N 1 0 < rX4_jar N 0 0 → (1 : Int32) = rX4_count N Hs P 8) ∧ (rX4_jar N 0 0 < rX4_jar N 1 0 → (-1 : Int32) = rX4_count N Hs P 8) ∧ (¬ rX4_jar N 1 0 < rX4_jar N 0 0 → ¬ rX4_jar N 0 0 < rX4_jar N 1 0 → (0 : Int32) = rX4_count N Hs P 8) := by
  obtain ⟨T, S, -, -, -, -, hb, -, -⟩ := h
  obtain ⟨e, b1, b2⟩ := ja_sub hb
  have e8 : rX4_count N Hs P 8 = rJ6_signum_0f7a4 (jm_ja N 0 - jm_ja N 1) := rfl
  have j0 : rX4_jar N 0 0 = jm_ja N 0 := rfl
  have j1 : rX4_jar N 1 0 = jm_ja N 1 := rfl
  rw [e8, j0, j1, sig_eq]
  simp only [Int32.lt_iff_toInt_lt, Int32.toInt_zero, e]
  refine ⟨fun c => ?_, fun c => ?_, fun c1 c2 => ?_⟩
  · rw [if_neg (by omega), if_neg]
    intro z
    rw [z, Int32.toInt_zero] at e
    omega
  · rw [if_pos (by omega)]
  · rw [if_neg (by omega), if_pos]
    exact Int32.toInt_inj.mp (by rw [e, Int32.toInt_zero]; omega)
theorem well_jar {K : Nat} {N : jm_T} (h : Tst K N) (Hs : jh_T) (P : jp_T) {j : Nat} (hj : j < 2) : rX4_jar N (nI j) 0 ≤ rX4_count N Hs P 4 ∧ -rX4_count N Hs P 4 ≤ rX4_jar N (nI j) 0 ∧ rX4_disc N (nI j) 3 ≤ 99 ∧ -99 ≤ rX4_disc N (nI j) 4 ∧ rX4_disc N (nI j) 1 + rX4_disc N (nI j) 2 ≤ 12 := by
  obtain ⟨T, S, -, -, -, -, hb, -, -⟩ := h
  obtain ⟨a0, a1, a2, a3, a4⟩ := disc_at N hj
  have e4 : rX4_count N Hs P 4 = jm_se N 4 := rfl
  have r := hb.2.2 j hj
  have r4 := hb.1.2.2.2.2
  have t := max_T hb.2.1 hj 12 (Nat.le_refl _)
  obtain ⟨m, m1, m2⟩ := cnt_12 (jm_ch N) hj
  have en : (-jm_se N 4).toInt = -(jm_se N 4).toInt := nq_T (by omega)
  rw [(jar_at N hj).1, e4, a1, a2, a3, a4, fid hj, m2]
  simp only [Int32.le_iff_toInt_le]
  rw [en, c99.1, c99.2, ch12, nI_toInt (by omega)]
  omega
/-- the log, as far as the law asks: how the latest sparks stand -/
theorem well_log {K : Nat} {N : jm_T} (h : Tst K N) (h6 : K < 1000000) (Hs : jh_T) (P : jp_T) {k : Nat} (hk : k < 8) : (nI k < rX4_count N Hs P 6 ∧ 0 < rX4_spark N (nI k) 0 ∧ rX4_spark N (nI k) 0 ≤ rX4_count N Hs P 5 ∧ (k ≠ 0 → rX4_spark N (nI k) 0 < rX4_spark N (nI (k - 1)) 0)) ∨ (¬ nI k < rX4_count N Hs P 6 ∧ rX4_spark N (nI k) 0 = -1000006) := by
  obtain ⟨T, S, h1, h2, h3, h4, -, -, t, g1, g2, g3⟩ := h
  have e5 : rX4_count N Hs P 5 = nI T := h3
  have e6 : rX4_count N Hs P 6 = nI S := h4
  rw [e5, e6, show rX4_spark N (nI k) 0 = _ from spk_at h4 (by omega) hk (show 0 < 3 by omega)]
  by_cases c : k < S
  · left
    have e := g1 (S - 1 - k) (by omega) (by omega)
    have b := g2 (S - 1 - k) (by omega)
    rw [if_pos c, Nat.add_zero, e]
    refine ⟨?_, ?_, ?_, fun n0 => ?_⟩
    · rw [Int32.lt_iff_toInt_lt, nI_toInt (by omega), nI_toInt (by omega)]; omega
    · rw [Int32.lt_iff_toInt_lt, nI_toInt (by omega), Int32.toInt_zero]; omega
    · rw [Int32.le_iff_toInt_le, nI_toInt (by omega), nI_toInt (by omega)]; omega
    · rw [show rX4_spark N (nI (k - 1)) 0 = _ from spk_at h4 (by omega) (show k - 1 < 8 by omega) (show 0 < 3 by omega), if_pos (by omega), Nat.add_zero, g1 (S - 1 - (k - 1)) (by omega) (by omega)]
      have b2 := g2 (S - 1 - (k - 1)) (by omega)
      have m := g3 (S - 1 - k) (by omega)
      rw [show S - 1 - k + 1 = S - 1 - (k - 1) by omega] at m
      rw [Int32.lt_iff_toInt_lt, nI_toInt (by omega), nI_toInt (by omega)]
      omega
  · right
    rw [if_neg c]
    refine ⟨?_, rfl⟩
    rw [Int32.lt_iff_toInt_lt, nI_toInt (by omega), nI_toInt (by omega)]
    omega
/-! ===== alike, with the other sign ===== -/
theorem spk_ng {K : Nat} {N : jm_T} (h : Tst K N) (h6 : K < 1000000) {k : Nat} (hk : k < 8) : rX4_spark N (nI k) 0 = rX4_spark (ng N) (nI k) 0 ∧ (¬ rX4_spark N (nI k) 0 = -1000006 → rX4_spark N (nI k) 1 = -rX4_spark (ng N) (nI k) 1 ∧ rX4_spark N (nI k) 2 = -rX4_spark (ng N) (nI k) 2) := by
  obtain ⟨T, S, h1, h2, h3, h4, -⟩ := h
  have a := fun w (hw : w < 3) => spk_at h4 (by omega) hk hw
  have b := fun w (hw : w < 3) => spk_at (N := ng N) h4 (by omega) hk hw
  rw [show rX4_spark N (nI k) 0 = _ from a 0 (by omega), show rX4_spark N (nI k) 1 = _ from a 1 (by omega), show rX4_spark N (nI k) 2 = _ from a 2 (by omega), show rX4_spark (ng N) (nI k) 0 = _ from b 0 (by omega), show rX4_spark (ng N) (nI k) 1 = _ from b 1 (by omega), show rX4_spark (ng N) (nI k) 2 = _ from b 2 (by omega)]
  by_cases c : k < S
  · rw [if_pos c, if_pos c, if_pos c, if_pos c, if_pos c, if_pos c]
    have e0 : jm_lo (ng N) (3 * ((S - 1 - k) % 8) + 0) = jm_lo N (3 * ((S - 1 - k) % 8) + 0) := if_pos (by omega)
    have e1 : jm_lo (ng N) (3 * ((S - 1 - k) % 8) + 1) = -jm_lo N (3 * ((S - 1 - k) % 8) + 1) := if_neg (by omega)
    have e2 : jm_lo (ng N) (3 * ((S - 1 - k) % 8) + 2) = -jm_lo N (3 * ((S - 1 - k) % 8) + 2) := if_neg (by omega)
    rw [e0, e1, e2, nq_nn, nq_nn]
    exact ⟨rfl, fun _ => ⟨rfl, rfl⟩⟩
  · rw [if_neg c, if_neg c, if_neg c, if_neg c, if_neg c, if_neg c]
    exact ⟨rfl, fun z => absurd rfl z⟩
theorem cnt_ng {N : jm_T} (h : bdd N) (Hs : jh_T) (P P' : jp_T) {w : Nat} : (w < 8 → rX4_count N Hs P (nI w) = rX4_count (ng N) Hs P' (nI w)) ∧ (8 ≤ w → w < 13 → rX4_count N Hs P (nI w) = -rX4_count (ng N) Hs P' (nI w)) := by
  obtain ⟨a5, a6, a7, a8, a9, a10, a11, a12, -⟩ := cnt_hi N Hs P
  obtain ⟨b5, b6, b7, b8, b9, b10, b11, b12, -⟩ := cnt_hi (ng N) Hs P'
  refine ⟨fun hw => ?_, fun h1 h2 => ?_⟩
  · by_cases c : w < 5
    · rw [cnt_se N Hs P c, cnt_se (ng N) Hs P' c]
      rfl
    · rcases (show w = 5 ∨ w = 6 ∨ w = 7 by omega) with q | q | q <;> subst q
      · exact a5.trans b5.symm
      · exact a6.trans b6.symm
      · exact a7.trans b7.symm
  · rcases (show w = 8 ∨ w = 9 ∨ w = 10 ∨ w = 11 ∨ w = 12 by omega) with q | q | q | q | q <;> subst q
    · exact a8.trans ((by rw [sign_ng h, nq_nn] : rX2_sign N = -rX2_sign (ng N)).trans (congrArg (fun z => -z) b8.symm))
    · exact a9.trans ((by rw [coa_ng, nq_nn] : rX2_chargeOfAll N = -rX2_chargeOfAll (ng N)).trans (congrArg (fun z => -z) b9.symm))
    · exact a10.trans ((nq_nn _).symm.trans (congrArg (fun z => -z) b10.symm))
    · exact a11.trans ((nq_nn _).symm.trans (congrArg (fun z => -z) b11.symm))
    · exact a12.trans ((nq_nn _).symm.trans (congrArg (fun z => -z) b12.symm))
theorem jar_ng (N : jm_T) {j w : Nat} (hj : j < 2) (hw : w < 3) : rX4_jar N (nI j) (nI w) = -rX4_jar (ng N) (nI j) (nI w) := by
  rcases (show j = 0 ∨ j = 1 by omega) with e | e <;> subst e <;> rcases (show w = 0 ∨ w = 1 ∨ w = 2 by omega) with q | q | q <;> subst q
  · show jm_ja N 0 = - -jm_ja N 0
    rw [nq_nn]
  · show jm_tk N 0 = - -jm_tk N 0
    rw [nq_nn]
  · show jm_lj N 0 = - -jm_lj N 0
    rw [nq_nn]
  · show jm_ja N 1 = - -jm_ja N 1
    rw [nq_nn]
  · show jm_tk N 1 = - -jm_tk N 1
    rw [nq_nn]
  · show jm_lj N 1 = - -jm_lj N 1
    rw [nq_nn]
theorem foresee_ng {K : Nat} {N : jm_T} (h : Tst K N) (h6 : K + 500 < 1000000) (T T' : jm_T) : rX4_untilSpark N T = rX4_untilSpark (ng N) T' ∧ lc_wg N = lc_wg (ng N) ∧ (lc_md N 61 0 T).1 = (lc_md (ng N) 61 0 T').1 := by
  have a := h.ast
  have e : (400 : Int32).toNatClampNeg = 400 := by decide
  refine ⟨?_, ?_, (md_K a (by omega) 61 0 T T' (by omega)).symm⟩
  · show (lp_spark (400 : Int32).toNatClampNeg N 1).1 = (lp_spark (400 : Int32).toNatClampNeg (ng N) 1).1
    rw [e, spark_K 400 K N 1 a (by omega)]
  · unfold lc_wg
    rw [(aheads_K a 200 (by omega)).2.2]
theorem ch6 (A B C E F G X : Int32) : (if (0 : Int32) < 0 then X else if (0 : Int32) ≤ 5 then (if (0 : Int32) = 0 then A else if (0 : Int32) = 1 then B else if (0 : Int32) = 2 then C else if (0 : Int32) = 3 then E else if (0 : Int32) = 4 then F else G) else X) = A ∧ (if (1 : Int32) < 0 then X else if (1 : Int32) ≤ 5 then (if (1 : Int32) = 0 then A else if (1 : Int32) = 1 then B else if (1 : Int32) = 2 then C else if (1 : Int32) = 3 then E else if (1 : Int32) = 4 then F else G) else X) = B ∧ (if (2 : Int32) < 0 then X else if (2 : Int32) ≤ 5 then (if (2 : Int32) = 0 then A else if (2 : Int32) = 1 then B else if (2 : Int32) = 2 then C else if (2 : Int32) = 3 then E else if (2 : Int32) = 4 then F else G) else X) = C ∧ (if (3 : Int32) < 0 then X else if (3 : Int32) ≤ 5 then (if (3 : Int32) = 0 then A else if (3 : Int32) = 1 then B else if (3 : Int32) = 2 then C else if (3 : Int32) = 3 then E else if (3 : Int32) = 4 then F else G) else X) = E ∧ (if (4 : Int32) < 0 then X else if (4 : Int32) ≤ 5 then (if (4 : Int32) = 0 then A else if (4 : Int32) = 1 then B else if (4 : Int32) = 2 then C else if (4 : Int32) = 3 then E else if (4 : Int32) = 4 then F else G) else X) = F ∧ (if (5 : Int32) < 0 then X else if (5 : Int32) ≤ 5 then (if (5 : Int32) = 0 then A else if (5 : Int32) = 1 then B else if (5 : Int32) = 2 then C else if (5 : Int32) = 3 then E else if (5 : Int32) = 4 then F else G) else X) = G := ⟨rfl, rfl, rfl, rfl, rfl, rfl⟩
theorem ift_at (N T : jm_T) {n : Nat} (h1 : 1 ≤ n) (h2 : n ≤ 400) : rX4_ifTurned N T (nI n) 0 = jm_sp (lp_turn N n) - jm_sp N ∧ rX4_ifTurned N T (nI n) 1 = jm_rv (lp_turn N n) - jm_rv N ∧ rX4_ifTurned N T (nI n) 2 = jm_ja (lp_turn N n) 0 ∧ rX4_ifTurned N T (nI n) 3 = jm_ja (lp_turn N n) 1 ∧ rX4_ifTurned N T (nI n) 4 = lp_dif N n ∧ rX4_ifTurned N T (nI n) 5 = rX2_chargeOfAll (lp_turn N n) := by
  have a1 : ¬ nI n < 1 := by rw [Int32.lt_iff_toInt_lt, nI_toInt (by omega), show (1 : Int32).toInt = 1 by decide]; omega
  have a2 : ¬ (400 : Int32) < nI n := by rw [Int32.lt_iff_toInt_lt, nI_toInt (by omega), show (400 : Int32).toInt = 400 by decide]; omega
  have e : (nI n).toNatClampNeg = n := jk_cl (by omega)
  unfold rX4_ifTurned
  dsimp only
  simp only [if_neg a1, if_neg a2, e]
  exact ch6 _ _ _ _ _ _ _
theorem ift_ng {K : Nat} {N : jm_T} (h : Tst K N) (h6 : K + 500 < 1000000) (T T' : jm_T) {n : Nat} (h1 : 1 ≤ n) (h2 : n ≤ 400) : rX4_ifTurned N T (nI n) 0 = rX4_ifTurned (ng N) T' (nI n) 0 ∧ rX4_ifTurned N T (nI n) 1 = rX4_ifTurned (ng N) T' (nI n) 1 ∧ rX4_ifTurned N T (nI n) 2 = -rX4_ifTurned (ng N) T' (nI n) 2 ∧ rX4_ifTurned N T (nI n) 3 = -rX4_ifTurned (ng N) T' (nI n) 3 ∧ rX4_ifTurned N T (nI n) 4 = rX4_ifTurned (ng N) T' (nI n) 4 ∧ rX4_ifTurned N T (nI n) 5 = -rX4_ifTurned (ng N) T' (nI n) 5 := by
  obtain ⟨a0, a1, a2, a3, a4, a5⟩ := ift_at N T h1 h2
  obtain ⟨b0, b1, b2, b3, b4, b5⟩ := ift_at (ng N) T' h1 h2
  obtain ⟨-, e, -, -, -, -, ed⟩ := turn_K h n (by omega)
  rw [a0, a1, a2, a3, a4, a5, b0, b1, b2, b3, b4, b5, e, ed, coa_ng, nq_nn]
  refine ⟨rfl, rfl, ?_, ?_, rfl, rfl⟩
  · show _ = - -jm_ja (lp_turn N n) 0
    rw [nq_nn]
  · show _ = - -jm_ja (lp_turn N n) 1
    rw [nq_nn]
