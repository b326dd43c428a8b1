theorem ded_chain {Q W : jd_T} {P : jp_T} (hr : rX0_readSector Q P = if nmR 0 11 W P = -1 then 0 else 1) (hs : sX0_readSector_0 Q P = jd_upl (nmS 0 11 W P) (nmR 0 11 W P)) : (if rX0_readSector Q P = 0 then (0 : Int32) else if rX0_readSign (sX0_readSector_0 Q P) P 61 = 0 then 0 else if rX0_readCharge (sX0_readSign_0 (sX0_readSector_0 Q P) P 61) P = 0 then 0 else 1) = tchR W P ∧ (if rX0_readSector Q P = 0 then sX0_readSector_0 Q P else if rX0_readSign (sX0_readSector_0 Q P) P 61 = 0 then sX0_readSign_0 (sX0_readSector_0 Q P) P 61 else if rX0_readCharge (sX0_readSign_0 (sX0_readSector_0 Q P) P 61) P = 0 then sX0_readCharge_0 (sX0_readSign_0 (sX0_readSector_0 Q P) P 61) P else sX0_readCharge_0 (sX0_readSign_0 (sX0_readSector_0 Q P) P 61) P) = tchS W P := by
  rw [hs]
  unfold tchR tchS
  by_cases c : nmR 0 11 W P = -1
  · rw [if_pos c] at hr
    rw [hr, if_pos rfl, if_pos rfl, if_pos c, if_pos c]
    exact ⟨rfl, rfl⟩
  · rw [if_neg c] at hr
    have n1 : ¬ (1 : Int32) = 0 := by decide
    rw [hr, if_neg n1, if_neg n1, if_neg c, if_neg c, ite_self]
    exact ⟨rfl, rfl⟩
theorem pp_deed {P : jp_T} {t q : Nat} {a b c d : Int32} (ht : jp_ln P = nI t) (h60 : t ≤ 60) (hq : q ≤ t) : ∃ de di pl am, sX0_readDeed_0 (jdq q a b c d) P = jdq (pr_deed (jp_sg P) t q).1 de di pl am ∧ pd_ok (pr_deed (jp_sg P) t q).2 (rX0_readDeed (jdq q a b c d) P) de di pl am := by
  have n1 : ¬ (1 : Int32) = 0 := by decide
  have z1 : nI 1 = 1 := rfl
  have z99 : nI 99 = 99 := rfl
  rw [ded_r, ded_s]
  unfold pr_deed
  by_cases c1 : pr_is (jp_sg P) t q 120 = true
  · obtain ⟨r1, r2⟩ := rs_y (a := a) (b := b) (d := c) (e := d) ht h60 hq c1
    rw [r1, r2, if_pos c1, if_neg n1, if_neg n1, jq_de]
    exact ⟨2, b, c, d, rfl, n1, rfl, fun z => absurd z (by omega), fun z => absurd z (by omega), Or.inr (Or.inr rfl)⟩
  · obtain ⟨r1, r2⟩ := rs_n (a := a) (b := b) (d := c) (e := d) ht h60 hq (by decide) c1
    rw [r1, r2, if_neg c1, if_pos rfl, if_pos rfl]
    by_cases c2 : pr_is (jp_sg P) t q 46 = true
    · obtain ⟨s1, s2⟩ := rs_y (a := a) (b := b) (d := c) (e := d) ht h60 hq c2
      have l := (pr_is_lt c2).1
      obtain ⟨u1, u2⟩ := pp_num (P := P) (t := t) (q := q + 1) (lo := 1) (hi := 99) (a := 1) (b := b) (d := c) (e := d) ht h60 (by omega) (by omega) (by omega)
      rw [z1, z99] at u1 u2
      rw [s1, s2, if_pos c2, if_neg n1, if_neg n1, jq_de]
      cases h2 : pr_num (jp_sg P) t 1 99 (q + 1) with
      | none =>
        obtain ⟨v1, v2⟩ := u1 h2
        rw [v1, v2, if_pos rfl, if_pos rfl, jq_am]
        exact ⟨1, b, c, -1, rfl, rfl⟩
      | some nq =>
        obtain ⟨n, q1⟩ := nq
        obtain ⟨v1, v2⟩ := u2 n q1 h2
        have n9 := (pr_num_le (by omega) h2).2.2.1
        rw [v1, v2, if_neg (nI_nn (n := n) (by omega)), if_neg (nI_nn (n := n) (by omega)), jq_am]
        exact ⟨1, b, c, nI n, rfl, n1, rfl, fun z => absurd z (by omega), fun _ => rfl, Or.inr (Or.inl rfl)⟩
    · obtain ⟨s1, s2⟩ := rs_n (a := a) (b := b) (d := c) (e := d) ht h60 hq (by decide) c2
      rw [s1, s2, if_neg c2, if_pos rfl, if_pos rfl, jq_de]
      by_cases c3 : pr_is (jp_sg P) t q 102 = true
      · obtain ⟨w1, w2⟩ := rs_y (a := 0) (b := b) (d := c) (e := d) ht h60 hq c3
        have l := (pr_is_lt c3).1
        obtain ⟨e1, e2⟩ := ded_chain (Q := jdq q 0 b c d) (W := jdq (q + 1) 0 (nI 0) c d) (P := P) (by rw [sec_r, w1, w2, if_neg n1, jq_di]; rfl) (by rw [sec_s, w1, w2, if_neg n1, jq_di, ite_self]; rfl)
        rw [e1, e2, if_pos c3]
        obtain ⟨pl, am, f1, f2⟩ := pp_touch (P := P) (t := t) (q := q + 1) (dd := 0) (c := c) (e := d) ht h60 (by omega)
        exact ⟨0, nI 0, pl, am, f1, f2⟩
      · obtain ⟨w1, w2⟩ := rs_n (a := 0) (b := b) (d := c) (e := d) ht h60 hq (by decide) c3
        rw [if_neg c3]
        by_cases c4 : pr_is (jp_sg P) t q 98 = true
        · obtain ⟨y1, y2⟩ := rs_y (a := 0) (b := b) (d := c) (e := d) ht h60 hq c4
          have l := (pr_is_lt c4).1
          obtain ⟨e1, e2⟩ := ded_chain (Q := jdq q 0 b c d) (W := jdq (q + 1) 0 (nI 1) c d) (P := P) (by rw [sec_r, w1, w2, if_pos rfl, y1, y2, if_neg n1, jq_di]; rfl) (by rw [sec_s, w1, w2, if_pos rfl, y1, y2, if_neg n1, jq_di, ite_self]; rfl)
          rw [e1, e2, if_pos c4]
          obtain ⟨pl, am, f1, f2⟩ := pp_touch (P := P) (t := t) (q := q + 1) (dd := 1) (c := c) (e := d) ht h60 (by omega)
          exact ⟨0, nI 1, pl, am, f1, f2⟩
        · obtain ⟨y1, y2⟩ := rs_n (a := 0) (b := b) (d := c) (e := d) ht h60 hq (by decide) c4
          have e1 : rX0_readSector (jdq q 0 b c d) P = 0 := by rw [sec_r, w1, w2, if_pos rfl, y1, if_pos rfl]
          have e2 : sX0_readSector_0 (jdq q 0 b c d) P = jdq q 0 b c d := by rw [sec_s, w1, w2, if_pos rfl, y1, if_pos rfl, y2]
          rw [if_neg c4, e1, e2, if_pos rfl, if_pos rfl]
          exact ⟨0, b, c, d, rfl, rfl⟩
/-! ===== only what stands in the text counts ===== -/
theorem pr_is_congr {T T' : Nat → Int32} {t : Nat} (h : ∀ j, j < t → T j = T' j) (q : Nat) (c : Int32) : pr_is T t q c = pr_is T' t q c := by
  unfold pr_is
  by_cases k : q < t
  · rw [h q k]
  · rw [decide_eq_false k, Bool.false_and, Bool.false_and]
theorem pr_dg_congr {T T' : Nat → Int32} {t : Nat} (h : ∀ j, j < t → T j = T' j) (q : Nat) : pr_dg T t q = pr_dg T' t q := by
  unfold pr_dg
  by_cases k : q < t
  · rw [h q k]
  · rw [if_neg (fun z => k z.1), if_neg (fun z => k z.1)]
theorem pr_num_congr {T T' : Nat → Int32} {t : Nat} (h : ∀ j, j < t → T j = T' j) (lo hi q : Nat) : pr_num T t lo hi q = pr_num T' t lo hi q := by
  unfold pr_num
  rw [pr_dg_congr h q, pr_dg_congr h (q + 1)]
theorem pr_touch_congr {T T' : Nat → Int32} {t : Nat} (h : ∀ j, j < t → T j = T' j) (q d : Nat) : pr_touch T t q d = pr_touch T' t q d := by
  unfold pr_touch
  rw [pr_num_congr h 0 11 q]
  cases pr_num T' t 0 11 q with
  | none => rfl
  | some pq =>
    obtain ⟨p, q1⟩ := pq
    dsimp only
    rw [pr_is_congr h q1 61, pr_is_congr h (q1 + 1) 45, pr_num_congr h]
theorem pr_deed_congr {T T' : Nat → Int32} {t : Nat} (h : ∀ j, j < t → T j = T' j) (q : Nat) : pr_deed T t q = pr_deed T' t q := by
  unfold pr_deed
  rw [pr_is_congr h q 120, pr_is_congr h q 46, pr_is_congr h q 102, pr_is_congr h q 98, pr_num_congr h, pr_touch_congr h, pr_touch_congr h]
theorem pr_fault_congr {T T' : Nat → Int32} {t : Nat} (h : ∀ j, j < t → T j = T' j) : ∀ n q, pr_fault T t n q = pr_fault T' t n q
  | 0, _ => rfl
  | n + 1, q => by
    unfold pr_fault
    rw [pr_deed_congr h q]
    cases pr_deed T' t q with
    | mk q1 o =>
      cases o with
      | none => rfl
      | some z =>
        dsimp only
        rw [pr_is_congr h q1 59, pr_fault_congr h n]
/-! ===== the faults of a text ===== -/
theorem deed_adv {T : Nat → Int32} {t q : Nat} {z : Nat × Nat × Nat × Int32} (hq : q ≤ t) (h : (pr_deed T t q).2 = some z) : q + 1 ≤ (pr_deed T t q).1 := by
  revert h
  unfold pr_deed
  by_cases c1 : pr_is T t q 120 = true
  · rw [if_pos c1]
    intro _
    exact Nat.le_refl _
  · rw [if_neg c1]
    by_cases c2 : pr_is T t q 46 = true
    · rw [if_pos c2]
      have l := (pr_is_lt c2).1
      cases h2 : pr_num T t 1 99 (q + 1) with
      | none =>
        intro k
        cases k
      | some nq =>
        obtain ⟨n, q1⟩ := nq
        have g := pr_num_le (by omega) h2
        intro _
        show q + 1 ≤ q1
        omega
    · rw [if_neg c2]
      by_cases c3 : pr_is T t q 102 = true
      · rw [if_pos c3]
        have l := (pr_is_lt c3).1
        intro _
        exact (pr_touch_le (T := T) (t := t) (q := q + 1) (d := 0) (by omega)).1
      · rw [if_neg c3]
        by_cases c4 : pr_is T t q 98 = true
        · rw [if_pos c4]
          have l := (pr_is_lt c4).1
          intro _
          exact (pr_touch_le (T := T) (t := t) (q := q + 1) (d := 1) (by omega)).1
        · rw [if_neg c4]
          intro k
          cases k
theorem pp_ff {P : jp_T} {t : Nat} (ht : jp_ln P = nI t) (h60 : t ≤ 60) : ∀ (n q : Nat) (a b c d : Int32), q ≤ t → t + 1 ≤ q + n → (lc_ff P n (jdq q a b c d)).1 = pr_fault (jp_sg P) t n q ∧ ∃ q' a' b' c' d', (lc_ff P n (jdq q a b c d)).2 = jdq q' a' b' c' d'
  | 0, q, _, _, _, _, hq, h => absurd h (by omega)
  | n + 1, q, a, b, c, d, hq, h => by
    obtain ⟨de, di, pl, am, e1, e2⟩ := pp_deed (P := P) (a := a) (b := b) (c := c) (d := d) ht h60 hq
    have ge := pr_deed_le (T := jp_sg P) hq
    have ad := fun z => deed_adv (T := jp_sg P) (z := z) hq
    rw [lc_ff, e1]
    unfold pr_fault
    generalize pr_deed (jp_sg P) t q = D at e1 e2 ge ad ⊢
    obtain ⟨q1, o⟩ := D
    have ge2 : q1 ≤ t := ge.2
    cases o with
    | none =>
      have e3 : rX0_readDeed (jdq q a b c d) P = 0 := e2
      rw [if_pos e3]
      exact ⟨rfl, q1, de, di, pl, am, rfl⟩
    | some z =>
      have e3 : ¬ rX0_readDeed (jdq q a b c d) P = 0 := e2.1
      have ad2 : q + 1 ≤ q1 := ad z rfl
      rw [if_neg e3]
      dsimp only
      by_cases k : pr_is (jp_sg P) t q1 59 = true
      · obtain ⟨r1, r2⟩ := rs_y (a := de) (b := di) (d := pl) (e := am) ht h60 ge2 k
        have l := (pr_is_lt k).1
        rw [r1, r2, if_neg (by decide), if_pos k]
        exact pp_ff ht h60 n (q1 + 1) de di pl am (by omega) (by omega)
      · obtain ⟨r1, r2⟩ := rs_n (a := de) (b := di) (d := pl) (e := am) ht h60 ge2 (by decide) k
        rw [r1, r2, if_pos rfl, if_neg k]
        refine ⟨?_, q1, de, di, pl, am, rfl⟩
        show (if nI q1 = jp_ln P then (-1000006) else nI q1) = _
        rw [ht]
        by_cases k2 : q1 = t
        · rw [if_pos k2, if_pos (by rw [k2])]
        · rw [if_neg k2, if_neg (fun z => k2 ((nI_eq (by omega) (by omega)).mp z))]
