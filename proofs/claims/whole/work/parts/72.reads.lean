/-! ===== the reader, as such ===== -/
def jdq (q : Nat) (de di pl am : Int32) : jd_T := (nI q, de, di, pl, am)
theorem pp_sign {P : jp_T} {t q : Nat} (ht : jp_ln P = nI t) (h60 : t ≤ 60) (hq : q ≤ t) : rX3_signAt P (nI q) = if q < t then jp_sg P q else 0 := by
  unfold rX3_signAt
  have k0 : ¬ nI q < 0 := by rw [Int32.lt_iff_toInt_lt, nI_toInt (by omega), Int32.toInt_zero]; omega
  rw [if_neg k0, ht]
  by_cases c : q < t
  · have k1 : ¬ nI t ≤ nI q := by rw [nI_leI (by omega) (by omega)]; omega
    have k2 : nI q < 60 := by rw [Int32.lt_iff_toInt_lt, nI_toInt (by omega), show (60 : Int32).toInt = 60 by decide]; omega
    rw [if_neg k1, if_pos k2, if_pos c, jk_cl (by omega)]
  · have k1 : nI t ≤ nI q := by rw [nI_leI (by omega) (by omega)]; omega
    rw [if_pos k1, if_neg c]
theorem rs_y {P : jp_T} {t q : Nat} {c a b d e : Int32} (ht : jp_ln P = nI t) (h60 : t ≤ 60) (hq : q ≤ t) (h : pr_is (jp_sg P) t q c = true) : rX0_readSign (jdq q a b d e) P c = 1 ∧ sX0_readSign_0 (jdq q a b d e) P c = jdq (q + 1) a b d e := by
  obtain ⟨h1, h2⟩ := pr_is_lt h
  have es : rX3_signAt P (jd_at (jdq q a b d e)) = c := by
    show rX3_signAt P (nI q) = c
    rw [pp_sign ht h60 hq, if_pos h1, h2]
  unfold rX0_readSign sX0_readSign_0
  dsimp only
  rw [if_pos es, if_pos es]
  refine ⟨rfl, ?_⟩
  show (nI q + 1, a, b, d, e) = (nI (q + 1), a, b, d, e)
  rw [show (1 : Int32) = nI 1 from rfl, nI_add]
theorem rs_n {P : jp_T} {t q : Nat} {c a b d e : Int32} (ht : jp_ln P = nI t) (h60 : t ≤ 60) (hq : q ≤ t) (hc : ¬ c = 0) (h : ¬ pr_is (jp_sg P) t q c = true) : rX0_readSign (jdq q a b d e) P c = 0 ∧ sX0_readSign_0 (jdq q a b d e) P c = jdq q a b d e := by
  have es : ¬ rX3_signAt P (jd_at (jdq q a b d e)) = c := by
    show ¬ rX3_signAt P (nI q) = c
    rw [pp_sign ht h60 hq]
    by_cases k : q < t
    · rw [if_pos k]
      intro z
      apply h
      unfold pr_is
      rw [Bool.and_eq_true, decide_eq_true_eq, decide_eq_true_eq]
      exact ⟨k, z⟩
    · rw [if_neg k]
      exact fun z => hc z.symm
  unfold rX0_readSign sX0_readSign_0
  dsimp only
  rw [if_neg es, if_neg es]
  exact ⟨rfl, rfl⟩
theorem dg_n {P : jp_T} {t q : Nat} (Q : jd_T) (ht : jp_ln P = nI t) (h60 : t ≤ 60) (hq : q ≤ t) (h : pr_dg (jp_sg P) t q = none) : rX0_digitAt Q P (nI q) = -1 := by
  have i48 : (48 : Int32).toInt = 48 := by decide
  have i57 : (57 : Int32).toInt = 57 := by decide
  unfold rX0_digitAt
  dsimp only
  rw [pp_sign ht h60 hq]
  by_cases k : q < t
  · rw [if_pos k]
    unfold pr_dg at h
    by_cases c : q < t ∧ 48 ≤ (jp_sg P q).toInt ∧ (jp_sg P q).toInt ≤ 57
    · rw [if_pos c] at h
      cases h
    · by_cases c1 : jp_sg P q < 48
      · rw [if_pos c1]
      · rw [if_neg c1, if_pos]
        rw [Int32.lt_iff_toInt_lt, i48] at c1
        rw [Int32.lt_iff_toInt_lt, i57]
        omega
  · rw [if_neg k, if_pos (by decide)]
theorem dg_y {P : jp_T} {t q d : Nat} (Q : jd_T) (ht : jp_ln P = nI t) (h60 : t ≤ 60) (hq : q ≤ t) (h : pr_dg (jp_sg P) t q = some d) : rX0_digitAt Q P (nI q) = nI d := by
  have i48 : (48 : Int32).toInt = 48 := by decide
  have i57 : (57 : Int32).toInt = 57 := by decide
  obtain ⟨h1, h2, h3⟩ := pr_dg_le h
  have hv := pr_dg_val h
  unfold rX0_digitAt
  dsimp only
  rw [pp_sign ht h60 hq, if_pos h2, if_neg, if_neg]
  · rw [hv, show (48 : Int32) = nI 48 from rfl, pk_sub (by omega), Nat.add_sub_cancel_left]
  · rw [Int32.lt_iff_toInt_lt, i57]; omega
  · rw [Int32.lt_iff_toInt_lt, i48]; omega
def nmR (lo hi : Int32) (Q : jd_T) (P : jp_T) : Int32 := if lo ≤ rX0_digitAt Q P (jd_at Q) then (lc_nl hi P 60 (rX0_digitAt Q P (jd_at Q)) (jd_uat Q (jd_at Q + 1))).1 else (-1)
def nmS (lo hi : Int32) (Q : jd_T) (P : jp_T) : jd_T := if lo ≤ rX0_digitAt Q P (jd_at Q) then (lc_nl hi P 60 (rX0_digitAt Q P (jd_at Q)) (jd_uat Q (jd_at Q + 1))).2 else Q
theorem nl_stop {P : jp_T} {t q x hi : Nat} {a b d e : Int32} (ht : jp_ln P = nI t) (h60 : t ≤ 60) (hq : q ≤ t) (hx : 10 ≤ x ∧ x ≤ 99) (hh : hi ≤ 99) : lc_nl (nI hi) P 59 (nI x) (jdq q a b d e) = (nI x, jdq q a b d e) := by
  have k0 : ¬ nI x ≤ 0 := by rw [Int32.le_iff_toInt_le, nI_toInt (by omega), Int32.toInt_zero]; omega
  have ea : jd_at (jdq q a b d e) = nI q := rfl
  rw [show (59 : Nat) = 58 + 1 from rfl, lc_nl, if_neg k0, ea]
  cases hd : pr_dg (jp_sg P) t q with
  | none => rw [dg_n _ ht h60 hq hd, if_pos rfl]
  | some g =>
    have g9 := (pr_dg_le hd).1
    have k1 : ¬ nI g = -1 := by
      intro z
      have := congrArg Int32.toInt z
      rw [nI_toInt (by omega), show (-1 : Int32).toInt = -1 by decide] at this
      omega
    have k2 : ¬ 10 * nI x + nI g ≤ nI hi := by
      rw [show (10 : Int32) = nI 10 from rfl, pk_mul, nI_add, nI_leI (by omega) (by omega)]
      omega
    rw [dg_y _ ht h60 hq hd, if_neg k1, if_neg k2]
theorem pp_num {P : jp_T} {t q lo hi : Nat} {a b d e : Int32} (ht : jp_ln P = nI t) (h60 : t ≤ 60) (hq : q ≤ t) (hlo : lo ≤ 1) (hhi : 9 ≤ hi ∧ hi ≤ 99) : (pr_num (jp_sg P) t lo hi q = none → nmR (nI lo) (nI hi) (jdq q a b d e) P = -1 ∧ nmS (nI lo) (nI hi) (jdq q a b d e) P = jdq q a b d e) ∧ (∀ n q', pr_num (jp_sg P) t lo hi q = some (n, q') → nmR (nI lo) (nI hi) (jdq q a b d e) P = nI n ∧ nmS (nI lo) (nI hi) (jdq q a b d e) P = jdq q' a b d e) := by
  have ea : jd_at (jdq q a b d e) = nI q := rfl
  have eu : jd_uat (jdq q a b d e) (nI q + 1) = jdq (q + 1) a b d e := by
    show (nI q + 1, a, b, d, e) = (nI (q + 1), a, b, d, e)
    rw [show (1 : Int32) = nI 1 from rfl, nI_add]
  have eu2 : jd_uat (jdq (q + 1) a b d e) (nI (q + 1) + 1) = jdq (q + 2) a b d e := by
    show (nI (q + 1) + 1, a, b, d, e) = (nI (q + 2), a, b, d, e)
    rw [show (1 : Int32) = nI 1 from rfl, nI_add]
  have ea2 : jd_at (jdq (q + 1) a b d e) = nI (q + 1) := rfl
  unfold nmR nmS
  rw [ea]
  unfold pr_num
  cases hd : pr_dg (jp_sg P) t q with
  | none =>
    rw [dg_n _ ht h60 hq hd]
    have k : ¬ nI lo ≤ -1 := by
      rw [Int32.le_iff_toInt_le, nI_toInt (by omega), show (-1 : Int32).toInt = -1 by decide]
      omega
    rw [if_neg k, if_neg k]
    exact ⟨fun _ => ⟨rfl, rfl⟩, (fun n q' z => by cases z)⟩
  | some g =>
    obtain ⟨g9, gt, -⟩ := pr_dg_le hd
    rw [dg_y _ ht h60 hq hd, eu]
    dsimp only
    by_cases c1 : g < lo
    · have k : ¬ nI lo ≤ nI g := by rw [nI_leI (by omega) (by omega)]; omega
      rw [if_neg k, if_neg k, if_pos c1]
      exact ⟨fun _ => ⟨rfl, rfl⟩, (fun n q' z => by cases z)⟩
    · have k : nI lo ≤ nI g := by rw [nI_leI (by omega) (by omega)]; omega
      rw [if_pos k, if_pos k, if_neg c1]
      by_cases c2 : g = 0
      · have k0 : nI g ≤ 0 := by rw [c2]; decide
        have el : lc_nl (nI hi) P 60 (nI g) (jdq (q + 1) a b d e) = (nI g, jdq (q + 1) a b d e) := by
          rw [show (60 : Nat) = 59 + 1 from rfl, lc_nl, if_pos k0]
        rw [el, if_pos c2]
        refine ⟨(fun z => by cases z), fun n q' z => ?_⟩
        cases z
        exact ⟨by rw [c2], rfl⟩
      · have k0 : ¬ nI g ≤ 0 := by rw [Int32.le_iff_toInt_le, nI_toInt (by omega), Int32.toInt_zero]; omega
        rw [if_neg c2]
        have el : lc_nl (nI hi) P 60 (nI g) (jdq (q + 1) a b d e) = if rX0_digitAt (jdq (q + 1) a b d e) P (nI (q + 1)) = -1 then (nI g, jdq (q + 1) a b d e) else if 10 * nI g + rX0_digitAt (jdq (q + 1) a b d e) P (nI (q + 1)) ≤ nI hi then lc_nl (nI hi) P 59 (10 * nI g + rX0_digitAt (jdq (q + 1) a b d e) P (nI (q + 1))) (jdq (q + 2) a b d e) else (nI g, jdq (q + 1) a b d e) := by
          rw [show (60 : Nat) = 59 + 1 from rfl, lc_nl, if_neg k0, ea2, eu2]
        rw [el]
        cases he : pr_dg (jp_sg P) t (q + 1) with
        | none =>
          rw [dg_n _ ht h60 (by omega) he, if_pos rfl]
          refine ⟨(fun z => by cases z), fun n q' z => ?_⟩
          cases z
          exact ⟨rfl, rfl⟩
        | some w =>
          obtain ⟨w9, wt, -⟩ := pr_dg_le he
          have k1 : ¬ nI w = -1 := by
            intro z
            have := congrArg Int32.toInt z
            rw [nI_toInt (by omega), show (-1 : Int32).toInt = -1 by decide] at this
            omega
          have em : 10 * nI g + nI w = nI (10 * g + w) := by rw [show (10 : Int32) = nI 10 from rfl, pk_mul, nI_add]
          rw [dg_y _ ht h60 (by omega) he, if_neg k1, em]
          dsimp only
          by_cases c3 : hi < 10 * g + w
          · have k2 : ¬ nI (10 * g + w) ≤ nI hi := by rw [nI_leI (by omega) (by omega)]; omega
            rw [if_neg k2, if_pos c3]
            refine ⟨(fun z => by cases z), fun n q' z => ?_⟩
            cases z
            exact ⟨rfl, rfl⟩
          · have k2 : nI (10 * g + w) ≤ nI hi := by rw [nI_leI (by omega) (by omega)]; omega
            rw [if_pos k2, if_neg c3, nl_stop ht h60 (by omega) (by omega) hhi.2]
            refine ⟨(fun z => by cases z), fun n q' z => ?_⟩
            cases z
            exact ⟨rfl, rfl⟩
