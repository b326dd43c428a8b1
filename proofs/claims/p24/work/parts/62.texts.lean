/-! ===== texts ===== -/
def pr_is (T : Nat → Int32) (t q : Nat) (c : Int32) : Bool := decide (q < t) && decide (T q = c)
def pr_dg (T : Nat → Int32) (t q : Nat) : Option Nat := if q < t ∧ 48 ≤ (T q).toInt ∧ (T q).toInt ≤ 57 then some ((T q).toInt.toNat - 48) else none
def pr_num (T : Nat → Int32) (t lo hi q : Nat) : Option (Nat × Nat) :=
  match pr_dg T t q with
  | none => none
  | some d => if d < lo then none else if d = 0 then some (0, q + 1) else
    match pr_dg T t (q + 1) with
    | none => some (d, q + 1)
    | some e => if hi < 10 * d + e then some (d, q + 1) else some (10 * d + e, q + 2)
theorem pr_dg_le {T : Nat → Int32} {t q d : Nat} (h : pr_dg T t q = some d) : d ≤ 9 ∧ q < t ∧ (T q).toInt = 48 + d := by
  unfold pr_dg at h
  by_cases c : q < t ∧ 48 ≤ (T q).toInt ∧ (T q).toInt ≤ 57
  · rw [if_pos c] at h
    cases h
    refine ⟨by omega, c.1, by omega⟩
  · rw [if_neg c] at h
    cases h
theorem pr_dg_val {T : Nat → Int32} {t q d : Nat} (h : pr_dg T t q = some d) : T q = nI (48 + d) := by
  obtain ⟨h1, -, h2⟩ := pr_dg_le h
  refine Int32.toInt_inj.mp ?_
  rw [h2, nI_toInt (by omega)]
  omega
theorem pr_num_le {T : Nat → Int32} {t lo hi q n q' : Nat} (hh : 9 ≤ hi) (h : pr_num T t lo hi q = some (n, q')) : lo ≤ n ∧ n ≤ hi ∧ n ≤ 99 ∧ q < q' ∧ q' ≤ t ∧ q' ≤ q + 2 := by
  unfold pr_num at h
  cases hd : pr_dg T t q with
  | none => rw [hd] at h; cases h
  | some d =>
    rw [hd] at h
    obtain ⟨h1, h2, -⟩ := pr_dg_le hd
    dsimp only at h
    by_cases c1 : d < lo
    · rw [if_pos c1] at h; cases h
    · rw [if_neg c1] at h
      by_cases c2 : d = 0
      · rw [if_pos c2] at h
        cases h
        omega
      · rw [if_neg c2] at h
        cases he : pr_dg T t (q + 1) with
        | none =>
          rw [he] at h
          cases h
          omega
        | some e =>
          rw [he] at h
          obtain ⟨g1, g2, -⟩ := pr_dg_le he
          dsimp only at h
          by_cases c3 : hi < 10 * d + e
          · rw [if_pos c3] at h
            cases h
            omega
          · rw [if_neg c3] at h
            cases h
            omega
def pr_touch (T : Nat → Int32) (t q : Nat) (d : Nat) : Nat × Option (Nat × Nat × Nat × Int32) :=
  match pr_num T t 0 11 q with
  | none => (q, none)
  | some (p, q1) =>
    if pr_is T t q1 61 then
      match pr_num T t 0 99 (if pr_is T t (q1 + 1) 45 then q1 + 2 else q1 + 1) with
      | none => ((if pr_is T t (q1 + 1) 45 then q1 + 2 else q1 + 1), none)
      | some (n, q2) => (q2, some (0, d, p, if pr_is T t (q1 + 1) 45 then -nI n else nI n))
    else (q1, none)
def pr_deed (T : Nat → Int32) (t q : Nat) : Nat × Option (Nat × Nat × Nat × Int32) :=
  if pr_is T t q 120 then (q + 1, some (2, 0, 0, 0))
  else if pr_is T t q 46 then
    match pr_num T t 1 99 (q + 1) with
    | none => (q + 1, none)
    | some (n, q1) => (q1, some (1, 0, n, 0))
  else if pr_is T t q 102 then pr_touch T t (q + 1) 0
  else if pr_is T t q 98 then pr_touch T t (q + 1) 1
  else (q, none)
def pr_fault (T : Nat → Int32) (t : Nat) : Nat → Nat → Int32
  | 0, _ => 0
  | n + 1, q => match pr_deed T t q with
    | (q1, none) => nI q1
    | (q1, some _) => if pr_is T t q1 59 then pr_fault T t n (q1 + 1) else if q1 = t then -1000006 else nI q1
theorem pr_is_lt {T : Nat → Int32} {t q : Nat} {c : Int32} (h : pr_is T t q c = true) : q < t ∧ T q = c := by
  unfold pr_is at h
  rw [Bool.and_eq_true, decide_eq_true_eq, decide_eq_true_eq] at h
  exact h
theorem pr_touch_le {T : Nat → Int32} {t q d : Nat} (hq : q ≤ t) : q ≤ (pr_touch T t q d).1 ∧ (pr_touch T t q d).1 ≤ t := by
  unfold pr_touch
  cases h1 : pr_num T t 0 11 q with
  | none => exact ⟨Nat.le_refl _, hq⟩
  | some pq =>
    obtain ⟨p, q1⟩ := pq
    have g1 := pr_num_le (by omega) h1
    dsimp only
    by_cases c1 : pr_is T t q1 61 = true
    · rw [if_pos c1]
      have l1 := (pr_is_lt c1).1
      have hle : (if pr_is T t (q1 + 1) 45 = true then q1 + 2 else q1 + 1) ≤ t := by
        by_cases c2 : pr_is T t (q1 + 1) 45 = true
        · rw [if_pos c2]; have := (pr_is_lt c2).1; omega
        · rw [if_neg c2]; omega
      have hge : q1 ≤ (if pr_is T t (q1 + 1) 45 = true then q1 + 2 else q1 + 1) := by
        by_cases c2 : pr_is T t (q1 + 1) 45 = true
        · rw [if_pos c2]; omega
        · rw [if_neg c2]; omega
      generalize (if pr_is T t (q1 + 1) 45 = true then q1 + 2 else q1 + 1) = z at hle hge ⊢
      cases h2 : pr_num T t 0 99 z with
      | none => exact ⟨by show q ≤ z; omega, hle⟩
      | some nq =>
        obtain ⟨n, q2⟩ := nq
        have g2 := pr_num_le (by omega) h2
        exact ⟨by show q ≤ q2; omega, by show q2 ≤ t; omega⟩
    · rw [if_neg c1]
      exact ⟨by show q ≤ q1; omega, by show q1 ≤ t; omega⟩
theorem pr_deed_le {T : Nat → Int32} {t q : Nat} (hq : q ≤ t) : q ≤ (pr_deed T t q).1 ∧ (pr_deed T t q).1 ≤ t := by
  unfold pr_deed
  by_cases c1 : pr_is T t q 120 = true
  · rw [if_pos c1]
    have := (pr_is_lt c1).1
    exact ⟨by show q ≤ q + 1; omega, by show q + 1 ≤ t; omega⟩
  · rw [if_neg c1]
    by_cases c2 : pr_is T t q 46 = true
    · rw [if_pos c2]
      have l := (pr_is_lt c2).1
      cases h2 : pr_num T t 1 99 (q + 1) with
      | none => exact ⟨by show q ≤ q + 1; omega, by show q + 1 ≤ t; omega⟩
      | some nq =>
        obtain ⟨n, q2⟩ := nq
        have g2 := pr_num_le (by omega) h2
        exact ⟨by show q ≤ q2; omega, by show q2 ≤ t; omega⟩
    · rw [if_neg c2]
      by_cases c3 : pr_is T t q 102 = true
      · rw [if_pos c3]
        have l := (pr_is_lt c3).1
        have g := pr_touch_le (T := T) (t := t) (q := q + 1) (d := 0) (by omega)
        omega
      · rw [if_neg c3]
        by_cases c4 : pr_is T t q 98 = true
        · rw [if_pos c4]
          have l := (pr_is_lt c4).1
          have g := pr_touch_le (T := T) (t := t) (q := q + 1) (d := 1) (by omega)
          omega
        · rw [if_neg c4]
          exact ⟨Nat.le_refl _, hq⟩
def jdq (q : Nat) (de di pl am : Int32) : jd_T := (nI q, de, di, pl, am)
theorem pp_sign {P : jp_T} {t q : Nat} (ht : jp_ln P = nI t) (h60 : t ≤ 60) (hq : q ≤ t) : rX3_signAt P (nI q) = if q < t then jp_sg P q else 0 := by
  unfold rX3_signAt
  have k0 : ¬ nI q < 0 := by rw [Int32.lt_iff_toInt_lt, nI_toInt (by omega), Int32.toInt_zero]; omega
  rw [if_neg k0, ht]
  by_cases c : q < t
  · have k1 : ¬ nI t ≤ nI q := by rw [nI_leI (by omega) (by omega)]; omega
    have k2 : nI q < 60 := by rw [Int32.lt_iff_toInt_lt, nI_toInt (by omega), show (60 : Int32).toInt = 60 by decide]; omega
    rw [if_neg k1, if_pos k2, if_pos c, jk_cl (by omega)]
  · have k1 : nI t ≤ nI q := by rw [nI_leI (by omega) (by omega)]; omega
    rw [if_pos k1, if_neg c]
theorem rs_y {P : jp_T} {t q : Nat} {c a b d e : Int32} (ht : jp_ln P = nI t) (h60 : t ≤ 60) (hq : q ≤ t) (h : pr_is (jp_sg P) t q c = true) : rX0_readSign (jdq q a b d e) P c = 1 ∧ sX0_readSign_0 (jdq q a b d e) P c = jdq (q + 1) a b d e := by
  obtain ⟨h1, h2⟩ := pr_is_lt h
  have es : rX3_signAt P (jd_at (jdq q a b d e)) = c := by
    show rX3_signAt P (nI q) = c
    rw [pp_sign ht h60 hq, if_pos h1, h2]
  unfold rX0_readSign sX0_readSign_0
  dsimp only
  rw [if_pos es, if_pos es]
  refine ⟨rfl, ?_⟩
  show (nI q + 1, a, b, d, e) = (nI (q + 1), a, b, d, e)
  rw [show (1 : Int32) = nI 1 from rfl, nI_add]
theorem rs_n {P : jp_T} {t q : Nat} {c a b d e : Int32} (ht : jp_ln P = nI t) (h60 : t ≤ 60) (hq : q ≤ t) (hc : ¬ c = 0) (h : ¬ pr_is (jp_sg P) t q c = true) : rX0_readSign (jdq q a b d e) P c = 0 ∧ sX0_readSign_0 (jdq q a b d e) P c = jdq q a b d e := by
  have es : ¬ rX3_signAt P (jd_at (jdq q a b d e)) = c := by
    show ¬ rX3_signAt P (nI q) = c
    rw [pp_sign ht h60 hq]
    by_cases k : q < t
    · rw [if_pos k]
      intro z
      apply h
      unfold pr_is
      rw [Bool.and_eq_true, decide_eq_true_eq, decide_eq_true_eq]
      exact ⟨k, z⟩
    · rw [if_neg k]
      exact fun z => hc z.symm
  unfold rX0_readSign sX0_readSign_0
  dsimp only
  rw [if_neg es, if_neg es]
  exact ⟨rfl, rfl⟩
theorem dg_n {P : jp_T} {t q : Nat} (Q : jd_T) (ht : jp_ln P = nI t) (h60 : t ≤ 60) (hq : q ≤ t) (h : pr_dg (jp_sg P) t q = none) : rX0_digitAt Q P (nI q) = -1 := by
  have i48 : (48 : Int32).toInt = 48 := by decide
  have i57 : (57 : Int32).toInt = 57 := by decide
  unfold rX0_digitAt
  dsimp only
  rw [pp_sign ht h60 hq]
  by_cases k : q < t
  · rw [if_pos k]
    unfold pr_dg at h
    by_cases c : q < t ∧ 48 ≤ (jp_sg P q).toInt ∧ (jp_sg P q).toInt ≤ 57
    · rw [if_pos c] at h
      cases h
    · by_cases c1 : jp_sg P q < 48
      · rw [if_pos c1]
      · rw [if_neg c1, if_pos]
        rw [Int32.lt_iff_toInt_lt, i48] at c1
        rw [Int32.lt_iff_toInt_lt, i57]
        omega
  · rw [if_neg k, if_pos (by decide)]
theorem dg_y {P : jp_T} {t q d : Nat} (Q : jd_T) (ht : jp_ln P = nI t) (h60 : t ≤ 60) (hq : q ≤ t) (h : pr_dg (jp_sg P) t q = some d) : rX0_digitAt Q P (nI q) = nI d := by
  have i48 : (48 : Int32).toInt = 48 := by decide
  have i57 : (57 : Int32).toInt = 57 := by decide
  obtain ⟨h1, h2, h3⟩ := pr_dg_le h
  have hv := pr_dg_val h
  unfold rX0_digitAt
  dsimp only
  rw [pp_sign ht h60 hq, if_pos h2, if_neg, if_neg]
  · rw [hv, show (48 : Int32) = nI 48 from rfl, pk_sub (by omega), Nat.add_sub_cancel_left]
  · rw [Int32.lt_iff_toInt_lt, i57]; omega
  · rw [Int32.lt_iff_toInt_lt, i48]; omega
def nmR (lo hi : Int32) (Q : jd_T) (P : jp_T) : Int32 := if lo ≤ rX0_digitAt Q P (jd_at Q) then (lc_nl hi P 60 (rX0_digitAt Q P (jd_at Q)) (jd_uat Q (jd_at Q + 1))).1 else (-1)
def nmS (lo hi : Int32) (Q : jd_T) (P : jp_T) : jd_T := if lo ≤ rX0_digitAt Q P (jd_at Q) then (lc_nl hi P 60 (rX0_digitAt Q P (jd_at Q)) (jd_uat Q (jd_at Q + 1))).2 else Q
theorem nl_stop {P : jp_T} {t q x hi : Nat} {a b d e : Int32} (ht : jp_ln P = nI t) (h60 : t ≤ 60) (hq : q ≤ t) (hx : 10 ≤ x ∧ x ≤ 99) (hh : hi ≤ 99) : lc_nl (nI hi) P 59 (nI x) (jdq q a b d e) = (nI x, jdq q a b d e) := by
  have k0 : ¬ nI x ≤ 0 := by rw [Int32.le_iff_toInt_le, nI_toInt (by omega), Int32.toInt_zero]; omega
  have ea : jd_at (jdq q a b d e) = nI q := rfl
  rw [show (59 : Nat) = 58 + 1 from rfl, lc_nl, if_neg k0, ea]
  cases hd : pr_dg (jp_sg P) t q with
  | none => rw [dg_n _ ht h60 hq hd, if_pos rfl]
  | some g =>
    have g9 := (pr_dg_le hd).1
    have k1 : ¬ nI g = -1 := by
      intro z
      have := congrArg Int32.toInt z
      rw [nI_toInt (by omega), show (-1 : Int32).toInt = -1 by decide] at this
      omega
    have k2 : ¬ 10 * nI x + nI g ≤ nI hi := by
      rw [show (10 : Int32) = nI 10 from rfl, pk_mul, nI_add, nI_leI (by omega) (by omega)]
      omega
    rw [dg_y _ ht h60 hq hd, if_neg k1, if_neg k2]
theorem pp_num {P : jp_T} {t q lo hi : Nat} {a b d e : Int32} (ht : jp_ln P = nI t) (h60 : t ≤ 60) (hq : q ≤ t) (hlo : lo ≤ 1) (hhi : 9 ≤ hi ∧ hi ≤ 99) : (pr_num (jp_sg P) t lo hi q = none → nmR (nI lo) (nI hi) (jdq q a b d e) P = -1 ∧ nmS (nI lo) (nI hi) (jdq q a b d e) P = jdq q a b d e) ∧ (∀ n q', pr_num (jp_sg P) t lo hi q = some (n, q') → nmR (nI lo) (nI hi) (jdq q a b d e) P = nI n ∧ nmS (nI lo) (nI hi) (jdq q a b d e) P = jdq q' a b d e) := by
  have ea : jd_at (jdq q a b d e) = nI q := rfl
  have eu : jd_uat (jdq q a b d e) (nI q + 1) = jdq (q + 1) a b d e := by
    show (nI q + 1, a, b, d, e) = (nI (q + 1), a, b, d, e)
    rw [show (1 : Int32) = nI 1 from rfl, nI_add]
  have eu2 : jd_uat (jdq (q + 1) a b d e) (nI (q + 1) + 1) = jdq (q + 2) a b d e := by
    show (nI (q + 1) + 1, a, b, d, e) = (nI (q + 2), a, b, d, e)
    rw [show (1 : Int32) = nI 1 from rfl, nI_add]
  have ea2 : jd_at (jdq (q + 1) a b d e) = nI (q + 1) := rfl
  unfold nmR nmS
  rw [ea]
  unfold pr_num
  cases hd : pr_dg (jp_sg P) t q with
  | none =>
    rw [dg_n _ ht h60 hq hd]
    have k : ¬ nI lo ≤ -1 := by
      rw [Int32.le_iff_toInt_le, nI_toInt (by omega), show (-1 : Int32).toInt = -1 by decide]
      omega
    rw [if_neg k, if_neg k]
    exact ⟨fun _ => ⟨rfl, rfl⟩, (fun n q' z => by cases z)⟩
  | some g =>
    obtain ⟨g9, gt, -⟩ := pr_dg_le hd
    rw [dg_y _ ht h60 hq hd, eu]
    dsimp only
    by_cases c1 : g < lo
    · have k : ¬ nI lo ≤ nI g := by rw [nI_leI (by omega) (by omega)]; omega
      rw [if_neg k, if_neg k, if_pos c1]
      exact ⟨fun _ => ⟨rfl, rfl⟩, (fun n q' z => by cases z)⟩
    · have k : nI lo ≤ nI g := by rw [nI_leI (by omega) (by omega)]; omega
      rw [if_pos k, if_pos k, if_neg c1]
      by_cases c2 : g = 0
      · have k0 : nI g ≤ 0 := by rw [c2]; decide
        have el : lc_nl (nI hi) P 60 (nI g) (jdq (q + 1) a b d e) = (nI g, jdq (q + 1) a b d e) := by
          rw [show (60 : Nat) = 59 + 1 from rfl, lc_nl, if_pos k0]
        rw [el, if_pos c2]
        refine ⟨(fun z => by cases z), fun n q' z => ?_⟩
        cases z
        exact ⟨by rw [c2], rfl⟩
      · have k0 : ¬ nI g ≤ 0 := by rw [Int32.le_iff_toInt_le, nI_toInt (by omega), Int32.toInt_zero]; omega
        rw [if_neg c2]
        have el : lc_nl (nI hi) P 60 (nI g) (jdq (q + 1) a b d e) = if rX0_digitAt (jdq (q + 1) a b d e) P (nI (q + 1)) = -1 then (nI g, jdq (q + 1) a b d e) else if 10 * nI g + rX0_digitAt (jdq (q + 1) a b d e) P (nI (q + 1)) ≤ nI hi then lc_nl (nI hi) P 59 (10 * nI g + rX0_digitAt (jdq (q + 1) a b d e) P (nI (q + 1))) (jdq (q + 2) a b d e) else (nI g, jdq (q + 1) a b d e) := by
          rw [show (60 : Nat) = 59 + 1 from rfl, lc_nl, if_neg k0, ea2, eu2]
        rw [el]
        cases he : pr_dg (jp_sg P) t (q + 1) with
        | none =>
          rw [dg_n _ ht h60 (by omega) he, if_pos rfl]
          refine ⟨(fun z => by cases z), fun n q' z => ?_⟩
          cases z
          exact ⟨rfl, rfl⟩
        | some w =>
          obtain ⟨w9, wt, -⟩ := pr_dg_le he
          have k1 : ¬ nI w = -1 := by
            intro z
            have := congrArg Int32.toInt z
            rw [nI_toInt (by omega), show (-1 : Int32).toInt = -1 by decide] at this
            omega
          have em : 10 * nI g + nI w = nI (10 * g + w) := by rw [show (10 : Int32) = nI 10 from rfl, pk_mul, nI_add]
          rw [dg_y _ ht h60 (by omega) he, if_neg k1, em]
          dsimp only
          by_cases c3 : hi < 10 * g + w
          · have k2 : ¬ nI (10 * g + w) ≤ nI hi := by rw [nI_leI (by omega) (by omega)]; omega
            rw [if_neg k2, if_pos c3]
            refine ⟨(fun z => by cases z), fun n q' z => ?_⟩
            cases z
            exact ⟨rfl, rfl⟩
          · have k2 : nI (10 * g + w) ≤ nI hi := by rw [nI_leI (by omega) (by omega)]; omega
            rw [if_pos k2, if_neg c3, nl_stop ht h60 (by omega) (by omega) hhi.2]
            refine ⟨(fun z => by cases z), fun n q' z => ?_⟩
            cases z
            exact ⟨rfl, rfl⟩
theorem jq_di (q : Nat) (a b c d x : Int32) : jd_udi (jdq q a b c d) x = jdq q a x c d := rfl
theorem jq_de (q : Nat) (a b c d x : Int32) : jd_ude (jdq q a b c d) x = jdq q x b c d := rfl
theorem jq_pl (q : Nat) (a b c d x : Int32) : jd_upl (jdq q a b c d) x = jdq q a b x d := rfl
theorem jq_am (q : Nat) (a b c d x : Int32) : jd_uam (jdq q a b c d) x = jdq q a b c x := rfl
theorem sec_r (Q : jd_T) (P : jp_T) : rX0_readSector Q P = if rX0_readSign Q P 102 = 0 then (if rX0_readSign (sX0_readSign_0 Q P 102) P 98 = 0 then 0 else if nmR 0 11 (jd_udi (sX0_readSign_0 (sX0_readSign_0 Q P 102) P 98) 1) P = -1 then 0 else 1) else (if nmR 0 11 (jd_udi (sX0_readSign_0 Q P 102) 0) P = -1 then 0 else 1) := rfl
theorem sec_s (Q : jd_T) (P : jp_T) : sX0_readSector_0 Q P = if rX0_readSign Q P 102 = 0 then (if rX0_readSign (sX0_readSign_0 Q P 102) P 98 = 0 then sX0_readSign_0 (sX0_readSign_0 Q P 102) P 98 else if nmR 0 11 (jd_udi (sX0_readSign_0 (sX0_readSign_0 Q P 102) P 98) 1) P = -1 then jd_upl (nmS 0 11 (jd_udi (sX0_readSign_0 (sX0_readSign_0 Q P 102) P 98) 1) P) (nmR 0 11 (jd_udi (sX0_readSign_0 (sX0_readSign_0 Q P 102) P 98) 1) P) else jd_upl (nmS 0 11 (jd_udi (sX0_readSign_0 (sX0_readSign_0 Q P 102) P 98) 1) P) (nmR 0 11 (jd_udi (sX0_readSign_0 (sX0_readSign_0 Q P 102) P 98) 1) P)) else (if nmR 0 11 (jd_udi (sX0_readSign_0 Q P 102) 0) P = -1 then jd_upl (nmS 0 11 (jd_udi (sX0_readSign_0 Q P 102) 0) P) (nmR 0 11 (jd_udi (sX0_readSign_0 Q P 102) 0) P) else jd_upl (nmS 0 11 (jd_udi (sX0_readSign_0 Q P 102) 0) P) (nmR 0 11 (jd_udi (sX0_readSign_0 Q P 102) 0) P)) := rfl
theorem chg_r (Q : jd_T) (P : jp_T) : rX0_readCharge Q P = if nmR 0 99 (sX0_readSign_0 Q P 45) P = -1 then 0 else 1 := rfl
theorem chg_s (Q : jd_T) (P : jp_T) : sX0_readCharge_0 Q P = if nmR 0 99 (sX0_readSign_0 Q P 45) P = -1 then nmS 0 99 (sX0_readSign_0 Q P 45) P else jd_uam (nmS 0 99 (sX0_readSign_0 Q P 45) P) (if rX0_readSign Q P 45 = 0 then nmR 0 99 (sX0_readSign_0 Q P 45) P else -(nmR 0 99 (sX0_readSign_0 Q P 45) P)) := rfl
theorem ded_r (Q : jd_T) (P : jp_T) : rX0_readDeed Q P = if rX0_readSign Q P 120 = 0 then (if rX0_readSign (sX0_readSign_0 Q P 120) P 46 = 0 then (if rX0_readSector (jd_ude (sX0_readSign_0 (sX0_readSign_0 Q P 120) P 46) 0) P = 0 then 0 else if rX0_readSign (sX0_readSector_0 (jd_ude (sX0_readSign_0 (sX0_readSign_0 Q P 120) P 46) 0) P) P 61 = 0 then 0 else if rX0_readCharge (sX0_readSign_0 (sX0_readSector_0 (jd_ude (sX0_readSign_0 (sX0_readSign_0 Q P 120) P 46) 0) P) P 61) P = 0 then 0 else 1) else (if nmR 1 99 (jd_ude (sX0_readSign_0 (sX0_readSign_0 Q P 120) P 46) 1) P = -1 then 0 else 1)) else 1 := rfl
theorem ded_s (Q : jd_T) (P : jp_T) : sX0_readDeed_0 Q P = if rX0_readSign Q P 120 = 0 then (if rX0_readSign (sX0_readSign_0 Q P 120) P 46 = 0 then (if rX0_readSector (jd_ude (sX0_readSign_0 (sX0_readSign_0 Q P 120) P 46) 0) P = 0 then sX0_readSector_0 (jd_ude (sX0_readSign_0 (sX0_readSign_0 Q P 120) P 46) 0) P else if rX0_readSign (sX0_readSector_0 (jd_ude (sX0_readSign_0 (sX0_readSign_0 Q P 120) P 46) 0) P) P 61 = 0 then sX0_readSign_0 (sX0_readSector_0 (jd_ude (sX0_readSign_0 (sX0_readSign_0 Q P 120) P 46) 0) P) P 61 else if rX0_readCharge (sX0_readSign_0 (sX0_readSector_0 (jd_ude (sX0_readSign_0 (sX0_readSign_0 Q P 120) P 46) 0) P) P 61) P = 0 then sX0_readCharge_0 (sX0_readSign_0 (sX0_readSector_0 (jd_ude (sX0_readSign_0 (sX0_readSign_0 Q P 120) P 46) 0) P) P 61) P else sX0_readCharge_0 (sX0_readSign_0 (sX0_readSector_0 (jd_ude (sX0_readSign_0 (sX0_readSign_0 Q P 120) P 46) 0) P) P 61) P) else (if nmR 1 99 (jd_ude (sX0_readSign_0 (sX0_readSign_0 Q P 120) P 46) 1) P = -1 then jd_uam (nmS 1 99 (jd_ude (sX0_readSign_0 (sX0_readSign_0 Q P 120) P 46) 1) P) (nmR 1 99 (jd_ude (sX0_readSign_0 (sX0_readSign_0 Q P 120) P 46) 1) P) else jd_uam (nmS 1 99 (jd_ude (sX0_readSign_0 (sX0_readSign_0 Q P 120) P 46) 1) P) (nmR 1 99 (jd_ude (sX0_readSign_0 (sX0_readSign_0 Q P 120) P 46) 1) P))) else jd_ude (sX0_readSign_0 Q P 120) 2 := rfl
theorem nI_nn {n : Nat} (h : n < 1000) : ¬ nI n = -1 := by
  intro z
  have := congrArg Int32.toInt z
  rw [nI_toInt (by omega), show (-1 : Int32).toInt = -1 by decide] at this
  omega
def tchR (Q : jd_T) (P : jp_T) : Int32 := if nmR 0 11 Q P = -1 then 0 else if rX0_readSign (jd_upl (nmS 0 11 Q P) (nmR 0 11 Q P)) P 61 = 0 then 0 else if rX0_readCharge (sX0_readSign_0 (jd_upl (nmS 0 11 Q P) (nmR 0 11 Q P)) P 61) P = 0 then 0 else 1
def tchS (Q : jd_T) (P : jp_T) : jd_T := if nmR 0 11 Q P = -1 then jd_upl (nmS 0 11 Q P) (nmR 0 11 Q P) else if rX0_readSign (jd_upl (nmS 0 11 Q P) (nmR 0 11 Q P)) P 61 = 0 then sX0_readSign_0 (jd_upl (nmS 0 11 Q P) (nmR 0 11 Q P)) P 61 else sX0_readCharge_0 (sX0_readSign_0 (jd_upl (nmS 0 11 Q P) (nmR 0 11 Q P)) P 61) P
def pd_ok (o : Option (Nat × Nat × Nat × Int32)) (r : Int32) (de di pl am : Int32) : Prop :=
  match o with
  | none => r = 0
  | some (k, d, n, z) => ¬ r = 0 ∧ de = nI k ∧ (k = 0 → di = nI d ∧ pl = nI n ∧ am = z) ∧ (k = 1 → am = nI n) ∧ (k = 0 ∨ k = 1 ∨ k = 2)
theorem pp_touch {P : jp_T} {t q dd : Nat} {c e : Int32} (ht : jp_ln P = nI t) (h60 : t ≤ 60) (hq : q ≤ t) : ∃ pl am, tchS (jdq q 0 (nI dd) c e) P = jdq (pr_touch (jp_sg P) t q dd).1 0 (nI dd) pl am ∧ pd_ok (pr_touch (jp_sg P) t q dd).2 (tchR (jdq q 0 (nI dd) c e) P) 0 (nI dd) pl am := by
  obtain ⟨u1, u2⟩ := pp_num (P := P) (t := t) (q := q) (lo := 0) (hi := 11) (a := 0) (b := nI dd) (d := c) (e := e) ht h60 hq (by omega) (by omega)
  have z0 : nI 0 = 0 := rfl
  have z11 : nI 11 = 11 := rfl
  have z99 : nI 99 = 99 := rfl
  rw [z0, z11] at u1 u2
  unfold tchS tchR pr_touch
  cases h1 : pr_num (jp_sg P) t 0 11 q with
  | none =>
    obtain ⟨v1, v2⟩ := u1 h1
    rw [v1, v2, if_pos rfl, if_pos rfl, jq_pl]
    exact ⟨-1, e, rfl, rfl⟩
  | some pq =>
    obtain ⟨p, q1⟩ := pq
    obtain ⟨v1, v2⟩ := u2 p q1 h1
    obtain ⟨-, p11, -, l1, l2, -⟩ := pr_num_le (by omega) h1
    rw [v1, v2, if_neg (nI_nn (by omega)), if_neg (nI_nn (by omega)), jq_pl]
    dsimp only
    by_cases c1 : pr_is (jp_sg P) t q1 61 = true
    · obtain ⟨w1, w2⟩ := rs_y (a := 0) (b := nI dd) (d := nI p) (e := e) ht h60 l2 c1
      have k1 := (pr_is_lt c1).1
      have n1 : ¬ (1 : Int32) = 0 := by decide
      rw [w1, w2, if_pos c1, if_neg n1, if_neg n1, chg_r, chg_s]
      have fin : ∀ (q2 : Nat) (s : Int32), q2 ≤ t → (∀ x : Int32, (if s = 0 then x else -x) = (if pr_is (jp_sg P) t (q1 + 1) 45 = true then -x else x)) → ∃ pl am, (if nmR 0 99 (jdq q2 0 (nI dd) (nI p) e) P = -1 then nmS 0 99 (jdq q2 0 (nI dd) (nI p) e) P else jd_uam (nmS 0 99 (jdq q2 0 (nI dd) (nI p) e) P) (if s = 0 then nmR 0 99 (jdq q2 0 (nI dd) (nI p) e) P else -(nmR 0 99 (jdq q2 0 (nI dd) (nI p) e) P))) = jdq (match pr_num (jp_sg P) t 0 99 q2 with
          | none => (q2, none)
          | some (n, q2) => (q2, some (0, dd, p, if pr_is (jp_sg P) t (q1 + 1) 45 = true then -nI n else nI n)) : Nat × Option (Nat × Nat × Nat × Int32)).1 0 (nI dd) pl am ∧ pd_ok (match pr_num (jp_sg P) t 0 99 q2 with
          | none => (q2, none)
          | some (n, q2) => (q2, some (0, dd, p, if pr_is (jp_sg P) t (q1 + 1) 45 = true then -nI n else nI n)) : Nat × Option (Nat × Nat × Nat × Int32)).2 (if (if nmR 0 99 (jdq q2 0 (nI dd) (nI p) e) P = -1 then (0 : Int32) else 1) = 0 then 0 else 1) 0 (nI dd) pl am := by
        intro q2 s hq2 hs
        obtain ⟨y1, y2⟩ := pp_num (P := P) (t := t) (q := q2) (lo := 0) (hi := 99) (a := 0) (b := nI dd) (d := nI p) (e := e) ht h60 hq2 (by omega) (by omega)
        rw [z0, z99] at y1 y2
        cases h2 : pr_num (jp_sg P) t 0 99 q2 with
        | none =>
          obtain ⟨x1, x2⟩ := y1 h2
          rw [x1, x2, if_pos rfl, if_pos rfl, if_pos rfl]
          exact ⟨nI p, e, rfl, rfl⟩
        | some nq =>
          obtain ⟨n, q3⟩ := nq
          obtain ⟨x1, x2⟩ := y2 n q3 h2
          have n9 := (pr_num_le (by omega) h2).2.2.1
          rw [x1, x2, hs, if_neg (nI_nn (n := n) (by omega)), if_neg (nI_nn (n := n) (by omega)), if_neg n1, jq_am]
          exact ⟨nI p, _, rfl, by decide, rfl, fun _ => ⟨rfl, rfl, rfl⟩, fun z => absurd z (by omega), Or.inl rfl⟩
      by_cases c2 : pr_is (jp_sg P) t (q1 + 1) 45 = true
      · obtain ⟨r1, r2⟩ := rs_y (a := 0) (b := nI dd) (d := nI p) (e := e) ht h60 (show q1 + 1 ≤ t by omega) c2
        have k2 := (pr_is_lt c2).1
        have f := fin (q1 + 2) 1 (by omega) (fun x => by rw [if_neg (by decide), if_pos c2])
        rw [r1, r2, if_pos c2]
        exact f
      · obtain ⟨r1, r2⟩ := rs_n (a := 0) (b := nI dd) (d := nI p) (e := e) ht h60 (show q1 + 1 ≤ t by omega) (by decide) c2
        have f := fin (q1 + 1) 0 (by omega) (fun x => by rw [if_pos rfl, if_neg c2])
        rw [r1, r2, if_neg c2]
        exact f
    · obtain ⟨w1, w2⟩ := rs_n (a := 0) (b := nI dd) (d := nI p) (e := e) ht h60 l2 (by decide) c1
      rw [w1, w2, if_neg c1, if_pos rfl, if_pos rfl]
      exact ⟨nI p, e, rfl, rfl⟩
theorem ded_chain {Q W : jd_T} {P : jp_T} (hr : rX0_readSector Q P = if nmR 0 11 W P = -1 then 0 else 1) (hs : sX0_readSector_0 Q P = jd_upl (nmS 0 11 W P) (nmR 0 11 W P)) : (if rX0_readSector Q P = 0 then (0 : Int32) else if rX0_readSign (sX0_readSector_0 Q P) P 61 = 0 then 0 else if rX0_readCharge (sX0_readSign_0 (sX0_readSector_0 Q P) P 61) P = 0 then 0 else 1) = tchR W P ∧ (if rX0_readSector Q P = 0 then sX0_readSector_0 Q P else if rX0_readSign (sX0_readSector_0 Q P) P 61 = 0 then sX0_readSign_0 (sX0_readSector_0 Q P) P 61 else if rX0_readCharge (sX0_readSign_0 (sX0_readSector_0 Q P) P 61) P = 0 then sX0_readCharge_0 (sX0_readSign_0 (sX0_readSector_0 Q P) P 61) P else sX0_readCharge_0 (sX0_readSign_0 (sX0_readSector_0 Q P) P 61) P) = tchS W P := by
  rw [hs]
  unfold tchR tchS
  by_cases c : nmR 0 11 W P = -1
  · rw [if_pos c] at hr
    rw [hr, if_pos rfl, if_pos rfl, if_pos c, if_pos c]
    exact ⟨rfl, rfl⟩
  · rw [if_neg c] at hr
    have n1 : ¬ (1 : Int32) = 0 := by decide
    rw [hr, if_neg n1, if_neg n1, if_neg c, if_neg c, ite_self]
    exact ⟨rfl, rfl⟩
theorem pp_deed {P : jp_T} {t q : Nat} {a b c d : Int32} (ht : jp_ln P = nI t) (h60 : t ≤ 60) (hq : q ≤ t) : ∃ de di pl am, sX0_readDeed_0 (jdq q a b c d) P = jdq (pr_deed (jp_sg P) t q).1 de di pl am ∧ pd_ok (pr_deed (jp_sg P) t q).2 (rX0_readDeed (jdq q a b c d) P) de di pl am := by
  have n1 : ¬ (1 : Int32) = 0 := by decide
  have z1 : nI 1 = 1 := rfl
  have z99 : nI 99 = 99 := rfl
  rw [ded_r, ded_s]
  unfold pr_deed
  by_cases c1 : pr_is (jp_sg P) t q 120 = true
  · obtain ⟨r1, r2⟩ := rs_y (a := a) (b := b) (d := c) (e := d) ht h60 hq c1
    rw [r1, r2, if_pos c1, if_neg n1, if_neg n1, jq_de]
    exact ⟨2, b, c, d, rfl, n1, rfl, fun z => absurd z (by omega), fun z => absurd z (by omega), Or.inr (Or.inr rfl)⟩
  · obtain ⟨r1, r2⟩ := rs_n (a := a) (b := b) (d := c) (e := d) ht h60 hq (by decide) c1
    rw [r1, r2, if_neg c1, if_pos rfl, if_pos rfl]
    by_cases c2 : pr_is (jp_sg P) t q 46 = true
    · obtain ⟨s1, s2⟩ := rs_y (a := a) (b := b) (d := c) (e := d) ht h60 hq c2
      have l := (pr_is_lt c2).1
      obtain ⟨u1, u2⟩ := pp_num (P := P) (t := t) (q := q + 1) (lo := 1) (hi := 99) (a := 1) (b := b) (d := c) (e := d) ht h60 (by omega) (by omega) (by omega)
      rw [z1, z99] at u1 u2
      rw [s1, s2, if_pos c2, if_neg n1, if_neg n1, jq_de]
      cases h2 : pr_num (jp_sg P) t 1 99 (q + 1) with
      | none =>
        obtain ⟨v1, v2⟩ := u1 h2
        rw [v1, v2, if_pos rfl, if_pos rfl, jq_am]
        exact ⟨1, b, c, -1, rfl, rfl⟩
      | some nq =>
        obtain ⟨n, q1⟩ := nq
        obtain ⟨v1, v2⟩ := u2 n q1 h2
        have n9 := (pr_num_le (by omega) h2).2.2.1
        rw [v1, v2, if_neg (nI_nn (n := n) (by omega)), if_neg (nI_nn (n := n) (by omega)), jq_am]
        exact ⟨1, b, c, nI n, rfl, n1, rfl, fun z => absurd z (by omega), fun _ => rfl, Or.inr (Or.inl rfl)⟩
    · obtain ⟨s1, s2⟩ := rs_n (a := a) (b := b) (d := c) (e := d) ht h60 hq (by decide) c2
      rw [s1, s2, if_neg c2, if_pos rfl, if_pos rfl, jq_de]
      by_cases c3 : pr_is (jp_sg P) t q 102 = true
      · obtain ⟨w1, w2⟩ := rs_y (a := 0) (b := b) (d := c) (e := d) ht h60 hq c3
        have l := (pr_is_lt c3).1
        obtain ⟨e1, e2⟩ := ded_chain (Q := jdq q 0 b c d) (W := jdq (q + 1) 0 (nI 0) c d) (P := P) (by rw [sec_r, w1, w2, if_neg n1, jq_di]; rfl) (by rw [sec_s, w1, w2, if_neg n1, jq_di, ite_self]; rfl)
        rw [e1, e2, if_pos c3]
        obtain ⟨pl, am, f1, f2⟩ := pp_touch (P := P) (t := t) (q := q + 1) (dd := 0) (c := c) (e := d) ht h60 (by omega)
        exact ⟨0, nI 0, pl, am, f1, f2⟩
      · obtain ⟨w1, w2⟩ := rs_n (a := 0) (b := b) (d := c) (e := d) ht h60 hq (by decide) c3
        rw [if_neg c3]
        by_cases c4 : pr_is (jp_sg P) t q 98 = true
        · obtain ⟨y1, y2⟩ := rs_y (a := 0) (b := b) (d := c) (e := d) ht h60 hq c4
          have l := (pr_is_lt c4).1
          obtain ⟨e1, e2⟩ := ded_chain (Q := jdq q 0 b c d) (W := jdq (q + 1) 0 (nI 1) c d) (P := P) (by rw [sec_r, w1, w2, if_pos rfl, y1, y2, if_neg n1, jq_di]; rfl) (by rw [sec_s, w1, w2, if_pos rfl, y1, y2, if_neg n1, jq_di, ite_self]; rfl)
          rw [e1, e2, if_pos c4]
          obtain ⟨pl, am, f1, f2⟩ := pp_touch (P := P) (t := t) (q := q + 1) (dd := 1) (c := c) (e := d) ht h60 (by omega)
          exact ⟨0, nI 1, pl, am, f1, f2⟩
        · obtain ⟨y1, y2⟩ := rs_n (a := 0) (b := b) (d := c) (e := d) ht h60 hq (by decide) c4
          have e1 : rX0_readSector (jdq q 0 b c d) P = 0 := by rw [sec_r, w1, w2, if_pos rfl, y1, if_pos rfl]
          have e2 : sX0_readSector_0 (jdq q 0 b c d) P = jdq q 0 b c d := by rw [sec_s, w1, w2, if_pos rfl, y1, if_pos rfl, y2]
          rw [if_neg c4, e1, e2, if_pos rfl, if_pos rfl]
          exact ⟨0, b, c, d, rfl, rfl⟩
theorem deed_adv {T : Nat → Int32} {t q : Nat} {z : Nat × Nat × Nat × Int32} (hq : q ≤ t) (h : (pr_deed T t q).2 = some z) : q + 1 ≤ (pr_deed T t q).1 := by
  revert h
  unfold pr_deed
  by_cases c1 : pr_is T t q 120 = true
  · rw [if_pos c1]
    intro _
    exact Nat.le_refl _
  · rw [if_neg c1]
    by_cases c2 : pr_is T t q 46 = true
    · rw [if_pos c2]
      have l := (pr_is_lt c2).1
      cases h2 : pr_num T t 1 99 (q + 1) with
      | none =>
        intro k
        cases k
      | some nq =>
        obtain ⟨n, q1⟩ := nq
        have g := pr_num_le (by omega) h2
        intro _
        show q + 1 ≤ q1
        omega
    · rw [if_neg c2]
      by_cases c3 : pr_is T t q 102 = true
      · rw [if_pos c3]
        have l := (pr_is_lt c3).1
        intro _
        exact (pr_touch_le (T := T) (t := t) (q := q + 1) (d := 0) (by omega)).1
      · rw [if_neg c3]
        by_cases c4 : pr_is T t q 98 = true
        · rw [if_pos c4]
          have l := (pr_is_lt c4).1
          intro _
          exact (pr_touch_le (T := T) (t := t) (q := q + 1) (d := 1) (by omega)).1
        · rw [if_neg c4]
          intro k
          cases k
theorem pp_ff {P : jp_T} {t : Nat} (ht : jp_ln P = nI t) (h60 : t ≤ 60) : ∀ (n q : Nat) (a b c d : Int32), q ≤ t → t + 1 ≤ q + n → (lc_ff P n (jdq q a b c d)).1 = pr_fault (jp_sg P) t n q ∧ ∃ q' a' b' c' d', (lc_ff P n (jdq q a b c d)).2 = jdq q' a' b' c' d'
  | 0, q, _, _, _, _, hq, h => absurd h (by omega)
  | n + 1, q, a, b, c, d, hq, h => by
    obtain ⟨de, di, pl, am, e1, e2⟩ := pp_deed (P := P) (a := a) (b := b) (c := c) (d := d) ht h60 hq
    have ge := pr_deed_le (T := jp_sg P) hq
    have ad := fun z => deed_adv (T := jp_sg P) (z := z) hq
    rw [lc_ff, e1]
    unfold pr_fault
    generalize pr_deed (jp_sg P) t q = D at e1 e2 ge ad ⊢
    obtain ⟨q1, o⟩ := D
    have ge2 : q1 ≤ t := ge.2
    cases o with
    | none =>
      have e3 : rX0_readDeed (jdq q a b c d) P = 0 := e2
      rw [if_pos e3]
      exact ⟨rfl, q1, de, di, pl, am, rfl⟩
    | some z =>
      have e3 : ¬ rX0_readDeed (jdq q a b c d) P = 0 := e2.1
      have ad2 : q + 1 ≤ q1 := ad z rfl
      rw [if_neg e3]
      dsimp only
      by_cases k : pr_is (jp_sg P) t q1 59 = true
      · obtain ⟨r1, r2⟩ := rs_y (a := de) (b := di) (d := pl) (e := am) ht h60 ge2 k
        have l := (pr_is_lt k).1
        rw [r1, r2, if_neg (by decide), if_pos k]
        exact pp_ff ht h60 n (q1 + 1) de di pl am (by omega) (by omega)
      · obtain ⟨r1, r2⟩ := rs_n (a := de) (b := di) (d := pl) (e := am) ht h60 ge2 (by decide) k
        rw [r1, r2, if_pos rfl, if_neg k]
        refine ⟨?_, q1, de, di, pl, am, rfl⟩
        show (if nI q1 = jp_ln P then (-1000006) else nI q1) = _
        rw [ht]
        by_cases k2 : q1 = t
        · rw [if_pos k2, if_pos (by rw [k2])]
        · rw [if_neg k2, if_neg (fun z => k2 ((nI_eq (by omega) (by omega)).mp z))]
theorem pr_is_congr {T T' : Nat → Int32} {t : Nat} (h : ∀ j, j < t → T j = T' j) (q : Nat) (c : Int32) : pr_is T t q c = pr_is T' t q c := by
  unfold pr_is
  by_cases k : q < t
  · rw [h q k]
  · rw [decide_eq_false k, Bool.false_and, Bool.false_and]
theorem nar_all : ∀ m : Nat, m < 256 → vp_nar .char (((nI m).toUInt32 % 65536).toInt32) = nI m ∧ narrow .char (.int (nI m)) = .int (nI m) := by decide +kernel
