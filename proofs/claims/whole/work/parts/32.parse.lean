/-! ===== texts as such: T its characters, t its length, q the place where one reads ===== -/
def pr_is (T : Nat → Int32) (t q : Nat) (c : Int32) : Bool := decide (q < t) && decide (T q = c)
def pr_dg (T : Nat → Int32) (t q : Nat) : Option Nat := if q < t ∧ 48 ≤ (T q).toInt ∧ (T q).toInt ≤ 57 then some ((T q).toInt.toNat - 48) else none
/-- a number and the place behind it -/
def pr_num (T : Nat → Int32) (t lo hi q : Nat) : Option (Nat × Nat) :=
  match pr_dg T t q with
  | none => none
  | some d => if d < lo then none else if d = 0 then some (0, q + 1) else
    match pr_dg T t (q + 1) with
    | none => some (d, q + 1)
    | some e => if hi < 10 * d + e then some (d, q + 1) else some (10 * d + e, q + 2)
theorem pr_dg_le {T : Nat → Int32} {t q d : Nat} (h : pr_dg T t q = some d) : d ≤ 9 ∧ q < t ∧ (T q).toInt = 48 + d := by
  unfold pr_dg at h
  by_cases c : q < t ∧ 48 ≤ (T q).toInt ∧ (T q).toInt ≤ 57
  · rw [if_pos c] at h
    cases h
    refine ⟨by omega, c.1, by omega⟩
  · rw [if_neg c] at h
    cases h
theorem pr_dg_val {T : Nat → Int32} {t q d : Nat} (h : pr_dg T t q = some d) : T q = nI (48 + d) := by
  obtain ⟨h1, -, h2⟩ := pr_dg_le h
  refine Int32.toInt_inj.mp ?_
  rw [h2, nI_toInt (by omega)]
  omega
theorem pr_num_le {T : Nat → Int32} {t lo hi q n q' : Nat} (hh : 9 ≤ hi) (h : pr_num T t lo hi q = some (n, q')) : lo ≤ n ∧ n ≤ hi ∧ n ≤ 99 ∧ q < q' ∧ q' ≤ t ∧ q' ≤ q + 2 := by
  unfold pr_num at h
  cases hd : pr_dg T t q with
  | none => rw [hd] at h; cases h
  | some d =>
    rw [hd] at h
    obtain ⟨h1, h2, -⟩ := pr_dg_le hd
    dsimp only at h
    by_cases c1 : d < lo
    · rw [if_pos c1] at h; cases h
    · rw [if_neg c1] at h
      by_cases c2 : d = 0
      · rw [if_pos c2] at h
        cases h
        omega
      · rw [if_neg c2] at h
        cases he : pr_dg T t (q + 1) with
        | none =>
          rw [he] at h
          cases h
          omega
        | some e =>
          rw [he] at h
          obtain ⟨g1, g2, -⟩ := pr_dg_le he
          dsimp only at h
          by_cases c3 : hi < 10 * d + e
          · rw [if_pos c3] at h
            cases h
            omega
          · rw [if_neg c3] at h
            cases h
            omega
/-- a deed: 0 a touch (disc, place, charge), 1 turns (how many), 2 a discharge -/
def pr_touch (T : Nat → Int32) (t q : Nat) (d : Nat) : Nat × Option (Nat × Nat × Nat × Int32) :=
  match pr_num T t 0 11 q with
  | none => (q, none)
  | some (p, q1) =>
    if pr_is T t q1 61 then
      match pr_num T t 0 99 (if pr_is T t (q1 + 1) 45 then q1 + 2 else q1 + 1) with
      | none => ((if pr_is T t (q1 + 1) 45 then q1 + 2 else q1 + 1), none)
      | some (n, q2) => (q2, some (0, d, p, if pr_is T t (q1 + 1) 45 then -nI n else nI n))
    else (q1, none)
def pr_deed (T : Nat → Int32) (t q : Nat) : Nat × Option (Nat × Nat × Nat × Int32) :=
  if pr_is T t q 120 then (q + 1, some (2, 0, 0, 0))
  else if pr_is T t q 46 then
    match pr_num T t 1 99 (q + 1) with
    | none => (q + 1, none)
    | some (n, q1) => (q1, some (1, 0, n, 0))
  else if pr_is T t q 102 then pr_touch T t (q + 1) 0
  else if pr_is T t q 98 then pr_touch T t (q + 1) 1
  else (q, none)
def pr_fault (T : Nat → Int32) (t : Nat) : Nat → Nat → Int32
  | 0, _ => 0
  | n + 1, q => match pr_deed T t q with
    | (q1, none) => nI q1
    | (q1, some _) => if pr_is T t q1 59 then pr_fault T t n (q1 + 1) else if q1 = t then -1000006 else nI q1
theorem pr_is_lt {T : Nat → Int32} {t q : Nat} {c : Int32} (h : pr_is T t q c = true) : q < t ∧ T q = c := by
  unfold pr_is at h
  rw [Bool.and_eq_true, decide_eq_true_eq, decide_eq_true_eq] at h
  exact h
theorem pr_touch_le {T : Nat → Int32} {t q d : Nat} (hq : q ≤ t) : q ≤ (pr_touch T t q d).1 ∧ (pr_touch T t q d).1 ≤ t := by
  unfold pr_touch
  cases h1 : pr_num T t 0 11 q with
  | none => exact ⟨Nat.le_refl _, hq⟩
  | some pq =>
    obtain ⟨p, q1⟩ := pq
    have g1 := pr_num_le (by omega) h1
    dsimp only
    by_cases c1 : pr_is T t q1 61 = true
    · rw [if_pos c1]
      have l1 := (pr_is_lt c1).1
      have hle : (if pr_is T t (q1 + 1) 45 = true then q1 + 2 else q1 + 1) ≤ t := by
        by_cases c2 : pr_is T t (q1 + 1) 45 = true
        · rw [if_pos c2]; have := (pr_is_lt c2).1; omega
        · rw [if_neg c2]; omega
      have hge : q1 ≤ (if pr_is T t (q1 + 1) 45 = true then q1 + 2 else q1 + 1) := by
        by_cases c2 : pr_is T t (q1 + 1) 45 = true
        · rw [if_pos c2]; omega
        · rw [if_neg c2]; omega
      generalize (if pr_is T t (q1 + 1) 45 = true then q1 + 2 else q1 + 1) = z at hle hge ⊢
      cases h2 : pr_num T t 0 99 z with
      | none => exact ⟨by show q ≤ z; omega, hle⟩
      | some nq =>
        obtain ⟨n, q2⟩ := nq
        have g2 := pr_num_le (by omega) h2
        exact ⟨by show q ≤ q2; omega, by show q2 ≤ t; omega⟩
    · rw [if_neg c1]
      exact ⟨by show q ≤ q1; omega, by show q1 ≤ t; omega⟩
theorem pr_deed_le {T : Nat → Int32} {t q : Nat} (hq : q ≤ t) : q ≤ (pr_deed T t q).1 ∧ (pr_deed T t q).1 ≤ t := by
  unfold pr_deed
  by_cases c1 : pr_is T t q 120 = true
  · rw [if_pos c1]
    have := (pr_is_lt c1).1
    exact ⟨by show q ≤ q + 1; omega, by show q + 1 ≤ t; omega⟩
  · rw [if_neg c1]
    by_cases c2 : pr_is T t q 46 = true
    · rw [if_pos c2]
      have l := (pr_is_lt c2).1
      cases h2 : pr_num T t 1 99 (q + 1) with
      | none => exact ⟨by show q ≤ q + 1; omega, by show q + 1 ≤ t; omega⟩
      | some nq =>
        obtain ⟨n, q2⟩ := nq
        have g2 := pr_num_le (by omega) h2
        exact ⟨by show q ≤ q2; omega, by show q2 ≤ t; omega⟩
    · rw [if_neg c2]
      by_cases c3 : pr_is T t q 102 = true
      · rw [if_pos c3]
        have l := (pr_is_lt c3).1
        have g := pr_touch_le (T := T) (t := t) (q := q + 1) (d := 0) (by omega)
        omega
      · rw [if_neg c3]
        by_cases c4 : pr_is T t q 98 = true
        · rw [if_pos c4]
          have l := (pr_is_lt c4).1
          have g := pr_touch_le (T := T) (t := t) (q := q + 1) (d := 1) (by omega)
          omega
        · rw [if_neg c4]
          exact ⟨Nat.le_refl _, hq⟩
