/-! ===== deeds, as the program reads them ===== -/
theorem jq_di (q : Nat) (a b c d x : Int32) : jd_udi (jdq q a b c d) x = jdq q a x c d := rfl
theorem jq_de (q : Nat) (a b c d x : Int32) : jd_ude (jdq q a b c d) x = jdq q x b c d := rfl
theorem jq_pl (q : Nat) (a b c d x : Int32) : jd_upl (jdq q a b c d) x = jdq q a b x d := rfl
theorem jq_am (q : Nat) (a b c d x : Int32) : jd_uam (jdq q a b c d) x = jdq q a b c x := rfl
theorem sec_r (Q : jd_T) (P : jp_T) : rX0_readSector Q P = if rX0_readSign Q P 102 = 0 then (if rX0_readSign (sX0_readSign_0 Q P 102) P 98 = 0 then 0 else if nmR 0 11 (jd_udi (sX0_readSign_0 (sX0_readSign_0 Q P 102) P 98) 1) P = -1 then 0 else 1) else (if nmR 0 11 (jd_udi (sX0_readSign_0 Q P 102) 0) P = -1 then 0 else 1) := rfl
theorem sec_s (Q : jd_T) (P : jp_T) : sX0_readSector_0 Q P = if rX0_readSign Q P 102 = 0 then (if rX0_readSign (sX0_readSign_0 Q P 102) P 98 = 0 then sX0_readSign_0 (sX0_readSign_0 Q P 102) P 98 else if nmR 0 11 (jd_udi (sX0_readSign_0 (sX0_readSign_0 Q P 102) P 98) 1) P = -1 then jd_upl (nmS 0 11 (jd_udi (sX0_readSign_0 (sX0_readSign_0 Q P 102) P 98) 1) P) (nmR 0 11 (jd_udi (sX0_readSign_0 (sX0_readSign_0 Q P 102) P 98) 1) P) else jd_upl (nmS 0 11 (jd_udi (sX0_readSign_0 (sX0_readSign_0 Q P 102) P 98) 1) P) (nmR 0 11 (jd_udi (sX0_readSign_0 (sX0_readSign_0 Q P 102) P 98) 1) P)) else (if nmR 0 11 (jd_udi (sX0_readSign_0 Q P 102) 0) P = -1 then jd_upl (nmS 0 11 (jd_udi (sX0_readSign_0 Q P 102) 0) P) (nmR 0 11 (jd_udi (sX0_readSign_0 Q P 102) 0) P) else jd_upl (nmS 0 11 (jd_udi (sX0_readSign_0 Q P 102) 0) P) (nmR 0 11 (jd_udi (sX0_readSign_0 Q P 102) 0) P)) := rfl
theorem chg_r (Q : jd_T) (P : jp_T) : rX0_readCharge Q P = if nmR 0 99 (sX0_readSign_0 Q P 45) P = -1 then 0 else 1 := rfl
theorem chg_s (Q : jd_T) (P : jp_T) : sX0_readCharge_0 Q P = if nmR 0 99 (sX0_readSign_0 Q P 45) P = -1 then nmS 0 99 (sX0_readSign_0 Q P 45) P else jd_uam (nmS 0 99 (sX0_readSign_0 Q P 45) P) (if rX0_readSign Q P 45 = 0 then nmR 0 99 (sX0_readSign_0 Q P 45) P else -(nmR 0 99 (sX0_readSign_0 Q P 45) P)) := rfl
theorem ded_r (Q : jd_T) (P : jp_T) : rX0_readDeed Q P = if rX0_readSign Q P 120 = 0 then (if rX0_readSign (sX0_readSign_0 Q P 120) P 46 = 0 then (if rX0_readSector (jd_ude (sX0_readSign_0 (sX0_readSign_0 Q P 120) P 46) 0) P = 0 then 0 else if rX0_readSign (sX0_readSector_0 (jd_ude (sX0_readSign_0 (sX0_readSign_0 Q P 120) P 46) 0) P) P 61 = 0 then 0 else if rX0_readCharge (sX0_readSign_0 (sX0_readSector_0 (jd_ude (sX0_readSign_0 (sX0_readSign_0 Q P 120) P 46) 0) P) P 61) P = 0 then 0 else 1) else (if nmR 1 99 (jd_ude (sX0_readSign_0 (sX0_readSign_0 Q P 120) P 46) 1) P = -1 then 0 else 1)) else 1 := rfl
theorem ded_s (Q : jd_T) (P : jp_T) : sX0_readDeed_0 Q P = if rX0_readSign Q P 120 = 0 then (if rX0_readSign (sX0_readSign_0 Q P 120) P 46 = 0 then (if rX0_readSector (jd_ude (sX0_readSign_0 (sX0_readSign_0 Q P 120) P 46) 0) P = 0 then sX0_readSector_0 (jd_ude (sX0_readSign_0 (sX0_readSign_0 Q P 120) P 46) 0) P else if rX0_readSign (sX0_readSector_0 (jd_ude (sX0_readSign_0 (sX0_readSign_0 Q P 120) P 46) 0) P) P 61 = 0 then sX0_readSign_0 (sX0_readSector_0 (jd_ude (sX0_readSign_0 (sX0_readSign_0 Q P 120) P 46) 0) P) P 61 else if rX0_readCharge (sX0_readSign_0 (sX0_readSector_0 (jd_ude (sX0_readSign_0 (sX0_readSign_0 Q P 120) P 46) 0) P) P 61) P = 0 then sX0_readCharge_0 (sX0_readSign_0 (sX0_readSector_0 (jd_ude (sX0_readSign_0 (sX0_readSign_0 Q P 120) P 46) 0) P) P 61) P else sX0_readCharge_0 (sX0_readSign_0 (sX0_readSector_0 (jd_ude (sX0_readSign_0 (sX0_readSign_0 Q P 120) P 46) 0) P) P 61) P) else (if nmR 1 99 (jd_ude (sX0_readSign_0 (sX0_readSign_0 Q P 120) P 46) 1) P = -1 then jd_uam (nmS 1 99 (jd_ude (sX0_readSign_0 (sX0_readSign_0 Q P 120) P 46) 1) P) (nmR 1 99 (jd_ude (sX0_readSign_0 (sX0_readSign_0 Q P 120) P 46) 1) P) else jd_uam (nmS 1 99 (jd_ude (sX0_readSign_0 (sX0_readSign_0 Q P 120) P 46) 1) P) (nmR 1 99 (jd_ude (sX0_readSign_0 (sX0_readSign_0 Q P 120) P 46) 1) P))) else jd_ude (sX0_readSign_0 Q P 120) 2 := rfl
theorem nI_nn {n : Nat} (h : n < 1000) : ¬ nI n = -1 := by
  intro z
  have := congrArg Int32.toInt z
  rw [nI_toInt (by omega), show (-1 : Int32).toInt = -1 by decide] at this
  omega
/-- the sector's disc is told: its place, the sign `=`, a charge -/
def tchR (Q : jd_T) (P : jp_T) : Int32 := if nmR 0 11 Q P = -1 then 0 else if rX0_readSign (jd_upl (nmS 0 11 Q P) (nmR 0 11 Q P)) P 61 = 0 then 0 else if rX0_readCharge (sX0_readSign_0 (jd_upl (nmS 0 11 Q P) (nmR 0 11 Q P)) P 61) P = 0 then 0 else 1
def tchS (Q : jd_T) (P : jp_T) : jd_T := if nmR 0 11 Q P = -1 then jd_upl (nmS 0 11 Q P) (nmR 0 11 Q P) else if rX0_readSign (jd_upl (nmS 0 11 Q P) (nmR 0 11 Q P)) P 61 = 0 then sX0_readSign_0 (jd_upl (nmS 0 11 Q P) (nmR 0 11 Q P)) P 61 else sX0_readCharge_0 (sX0_readSign_0 (jd_upl (nmS 0 11 Q P) (nmR 0 11 Q P)) P 61) P
def pd_ok (o : Option (Nat × Nat × Nat × Int32)) (r : Int32) (de di pl am : Int32) : Prop :=
  match o with
  | none => r = 0
  | some (k, d, n, z) => ¬ r = 0 ∧ de = nI k ∧ (k = 0 → di = nI d ∧ pl = nI n ∧ am = z) ∧ (k = 1 → am = nI n) ∧ (k = 0 ∨ k = 1 ∨ k = 2)
theorem pp_touch {P : jp_T} {t q dd : Nat} {c e : Int32} (ht : jp_ln P = nI t) (h60 : t ≤ 60) (hq : q ≤ t) : ∃ pl am, tchS (jdq q 0 (nI dd) c e) P = jdq (pr_touch (jp_sg P) t q dd).1 0 (nI dd) pl am ∧ pd_ok (pr_touch (jp_sg P) t q dd).2 (tchR (jdq q 0 (nI dd) c e) P) 0 (nI dd) pl am := by
  obtain ⟨u1, u2⟩ := pp_num (P := P) (t := t) (q := q) (lo := 0) (hi := 11) (a := 0) (b := nI dd) (d := c) (e := e) ht h60 hq (by omega) (by omega)
  have z0 : nI 0 = 0 := rfl
  have z11 : nI 11 = 11 := rfl
  have z99 : nI 99 = 99 := rfl
  rw [z0, z11] at u1 u2
  unfold tchS tchR pr_touch
  cases h1 : pr_num (jp_sg P) t 0 11 q with
  | none =>
    obtain ⟨v1, v2⟩ := u1 h1
    rw [v1, v2, if_pos rfl, if_pos rfl, jq_pl]
    exact ⟨-1, e, rfl, rfl⟩
  | some pq =>
    obtain ⟨p, q1⟩ := pq
    obtain ⟨v1, v2⟩ := u2 p q1 h1
    obtain ⟨-, p11, -, l1, l2, -⟩ := pr_num_le (by omega) h1
    rw [v1, v2, if_neg (nI_nn (by omega)), if_neg (nI_nn (by omega)), jq_pl]
    dsimp only
    by_cases c1 : pr_is (jp_sg P) t q1 61 = true
    · obtain ⟨w1, w2⟩ := rs_y (a := 0) (b := nI dd) (d := nI p) (e := e) ht h60 l2 c1
      have k1 := (pr_is_lt c1).1
      have n1 : ¬ (1 : Int32) = 0 := by decide
      rw [w1, w2, if_pos c1, if_neg n1, if_neg n1, chg_r, chg_s]
      have fin : ∀ (q2 : Nat) (s : Int32), q2 ≤ t → (∀ x : Int32, (if s = 0 then x else -x) = (if pr_is (jp_sg P) t (q1 + 1) 45 = true then -x else x)) → ∃ pl am, (if nmR 0 99 (jdq q2 0 (nI dd) (nI p) e) P = -1 then nmS 0 99 (jdq q2 0 (nI dd) (nI p) e) P else jd_uam (nmS 0 99 (jdq q2 0 (nI dd) (nI p) e) P) (if s = 0 then nmR 0 99 (jdq q2 0 (nI dd) (nI p) e) P else -(nmR 0 99 (jdq q2 0 (nI dd) (nI p) e) P))) = jdq (match pr_num (jp_sg P) t 0 99 q2 with
          | none => (q2, none)
          | some (n, q2) => (q2, some (0, dd, p, if pr_is (jp_sg P) t (q1 + 1) 45 = true then -nI n else nI n)) : Nat × Option (Nat × Nat × Nat × Int32)).1 0 (nI dd) pl am ∧ pd_ok (match pr_num (jp_sg P) t 0 99 q2 with
          | none => (q2, none)
          | some (n, q2) => (q2, some (0, dd, p, if pr_is (jp_sg P) t (q1 + 1) 45 = true then -nI n else nI n)) : Nat × Option (Nat × Nat × Nat × Int32)).2 (if (if nmR 0 99 (jdq q2 0 (nI dd) (nI p) e) P = -1 then (0 : Int32) else 1) = 0 then 0 else 1) 0 (nI dd) pl am := by
        intro q2 s hq2 hs
        obtain ⟨y1, y2⟩ := pp_num (P := P) (t := t) (q := q2) (lo := 0) (hi := 99) (a := 0) (b := nI dd) (d := nI p) (e := e) ht h60 hq2 (by omega) (by omega)
        rw [z0, z99] at y1 y2
        cases h2 : pr_num (jp_sg P) t 0 99 q2 with
        | none =>
          obtain ⟨x1, x2⟩ := y1 h2
          rw [x1, x2, if_pos rfl, if_pos rfl, if_pos rfl]
          exact ⟨nI p, e, rfl, rfl⟩
        | some nq =>
          obtain ⟨n, q3⟩ := nq
          obtain ⟨x1, x2⟩ := y2 n q3 h2
          have n9 := (pr_num_le (by omega) h2).2.2.1
          rw [x1, x2, hs, if_neg (nI_nn (n := n) (by omega)), if_neg (nI_nn (n := n) (by omega)), if_neg n1, jq_am]
          exact ⟨nI p, _, rfl, by decide, rfl, fun _ => ⟨rfl, rfl, rfl⟩, fun z => absurd z (by omega), Or.inl rfl⟩
      by_cases c2 : pr_is (jp_sg P) t (q1 + 1) 45 = true
      · obtain ⟨r1, r2⟩ := rs_y (a := 0) (b := nI dd) (d := nI p) (e := e) ht h60 (show q1 + 1 ≤ t by omega) c2
        have k2 := (pr_is_lt c2).1
        have f := fin (q1 + 2) 1 (by omega) (fun x => by rw [if_neg (by decide), if_pos c2])
        rw [r1, r2, if_pos c2]
        exact f
      · obtain ⟨r1, r2⟩ := rs_n (a := 0) (b := nI dd) (d := nI p) (e := e) ht h60 (show q1 + 1 ≤ t by omega) (by decide) c2
        have f := fin (q1 + 1) 0 (by omega) (fun x => by rw [if_pos rfl, if_neg c2])
        rw [r1, r2, if_neg c2]
        exact f
    · obtain ⟨w1, w2⟩ := rs_n (a := 0) (b := nI dd) (d := nI p) (e := e) ht h60 l2 (by decide) c1
      rw [w1, w2, if_neg c1, if_pos rfl, if_pos rfl]
      exact ⟨nI p, e, rfl, rfl⟩
