/-! ===== what changes the numbers alone ===== -/
def jx_only (X Y : jx_T) : Prop := ∃ f : Nat → Int32, Y = jx_ual X f
theorem jx_only.rf (X : jx_T) : jx_only X X := ⟨jx_al X, rfl⟩
theorem jx_only.trans {X Y Z : jx_T} (h1 : jx_only X Y) (h2 : jx_only Y Z) : jx_only X Z := by
  obtain ⟨f, rfl⟩ := h1
  obtain ⟨g, rfl⟩ := h2
  exact ⟨g, rfl⟩
theorem jo_discs (X : jx_T) : jx_only X (sX5_discsTurn X) := ⟨_, rfl⟩
theorem jo_join0 (X : jx_T) : jx_only X (sX5_joins_0 X) := ⟨_, rfl⟩
theorem jo_join1 (X : jx_T) : jx_only X (sX5_joins_1 X) := ⟨_, rfl⟩
theorem jo_take00 (X : jx_T) : jx_only X (sX5_takes_00 X) := ⟨_, rfl⟩
theorem jo_take01 (X : jx_T) : jx_only X (sX5_takes_01 X) := ⟨_, rfl⟩
theorem jo_take10 (X : jx_T) : jx_only X (sX5_takes_10 X) := ⟨_, rfl⟩
theorem jo_take11 (X : jx_T) : jx_only X (sX5_takes_11 X) := ⟨_, rfl⟩
theorem jo_leaks (X : jx_T) : jx_only X (sX5_leaks X) := ⟨_, rfl⟩
theorem jo_charges (X : jx_T) : jx_only X (sX5_charges X) := by
  rw [jx_eq_charges]
  have h0 : jx_only X (jx_ual X (upd (jx_al X) 5 (jx_al X 5 + 1))) := ⟨_, rfl⟩
  exact ((((((((h0.trans (jo_discs _)).trans (jo_join0 _)).trans (jo_join1 _)).trans (jo_take00 _)).trans (jo_take01 _)).trans (jo_take10 _)).trans (jo_take11 _)).trans (jo_leaks _))
theorem jo_logs (X : jx_T) : jx_only X (sX5_logs X) := by
  unfold sX5_logs
  by_cases c : (jx_al X) 12 = 8
  · rw [if_pos c]; exact ⟨_, rfl⟩
  · rw [if_neg c]; exact ⟨_, rfl⟩
theorem jo_sparks (X : jx_T) : jx_only X (sX5_sparks X) := by
  unfold sX5_sparks
  by_cases c : (10 * ((jx_al X) 2)) ≤ (rX5_difference X)
  · rw [if_pos c]
    exact (jo_logs X).trans ⟨_, rfl⟩
  · rw [if_neg c]
    exact jx_only.rf X
theorem jo_turns (X : jx_T) : jx_only X (sX5_turns X) := ((jo_charges X).trans (jo_sparks _)).trans ⟨_, rfl⟩
theorem jo_turn (X : jx_T) : ∀ k : Nat, jx_only X (lx_turn X k)
  | 0 => jx_only.rf X
  | k + 1 => (jo_turn X k).trans (jo_turns _)
theorem jo_char (X : jx_T) : ∀ k : Nat, jx_only X (lx_char X k)
  | 0 => jx_only.rf X
  | k + 1 => (jo_char X k).trans (jo_charges _)
theorem jo_turned (X : jx_T) (v : Int32) : jx_only X (sX5_turned X v) := jo_turn X _
theorem jo_dis (X : jx_T) : jx_only X (sX5_discharges X) := ⟨_, rfl⟩
theorem jo_tch (X : jx_T) (u v w : Int32) : jx_only X (sX5_touches X u v w) := ⟨_, rfl⟩
theorem jo_does (X : jx_T) : jx_only X (sX5_does X) := by
  unfold sX5_does
  dsimp only
  by_cases c : jx_le X = 46
  · rw [if_pos c]
    by_cases c2 : jx_al X 5 + jx_nu X ≤ 99999
    · rw [if_pos c2]; exact jo_turned X _
    · rw [if_neg c2]; exact jx_only.rf X
  · rw [if_neg c]
    by_cases c2 : jx_le X = 120
    · rw [if_pos c2]; exact jo_dis X
    · rw [if_neg c2]; exact jo_tch X _ _ _
/-- the log's length stays a place -/
theorem jx_ok_does {X : jx_T} (h : jx_ok (jx_al X)) (hc : ¬ jx_le X = 46 → ¬ jx_le X = 120 → vp_in (rX5_cell (if jx_le X = 102 then 0 else 1) (jx_pl X)) 67 ∧ (rX5_cell (if jx_le X = 102 then 0 else 1) (jx_pl X)).toNatClampNeg ≠ 12) : jx_ok (jx_al (sX5_does X)) := by
  unfold sX5_does
  dsimp only
  by_cases c : jx_le X = 46
  · rw [if_pos c]
    by_cases c2 : jx_al X 5 + jx_nu X ≤ 99999
    · rw [if_pos c2]; exact jx_ok_turn h _
    · rw [if_neg c2]; exact h
  · rw [if_neg c]
    by_cases c2 : jx_le X = 120
    · rw [if_pos c2]
      obtain ⟨n, h1, h2⟩ := h
      exact ⟨n, h1, h2⟩
    · rw [if_neg c2]
      obtain ⟨n, h1, h2⟩ := h
      obtain ⟨-, h3⟩ := hc c c2
      refine ⟨n, h1, ?_⟩
      unfold sX5_touches
      dsimp only
      rw [jx_al_ual, pk_un (fun q => h3 q.symm), pk_un (by decide)]
      exact h2
theorem pr_touch_some {T : Nat → Int32} {t q d k d' x : Nat} {z : Int32} (h : (pr_touch T t q d).2 = some (k, d', x, z)) : k = 0 ∧ d' = d ∧ x ≤ 11 := by
  unfold pr_touch at h
  cases h1 : pr_num T t 0 11 q with
  | none => rw [h1] at h; cases h
  | some pq =>
    obtain ⟨p, q1⟩ := pq
    have g1 := pr_num_le (by omega) h1
    rw [h1] at h
    dsimp only at h
    by_cases c1 : pr_is T t q1 61 = true
    · rw [if_pos c1] at h
      cases h2 : pr_num T t 0 99 (if pr_is T t (q1 + 1) 45 = true then q1 + 2 else q1 + 1) with
      | none => rw [h2] at h; cases h
      | some nq =>
        obtain ⟨n, q2⟩ := nq
        rw [h2] at h
        cases h
        exact ⟨rfl, rfl, g1.2.1⟩
    · rw [if_neg c1] at h
      cases h
theorem pr_deed_some {T : Nat → Int32} {t q k d x : Nat} {z : Int32} (h : (pr_deed T t q).2 = some (k, d, x, z)) (h0 : k = 0) : d ≤ 1 ∧ x ≤ 11 := by
  subst h0
  unfold pr_deed at h
  by_cases c1 : pr_is T t q 120 = true
  · rw [if_pos c1] at h; cases h
  · rw [if_neg c1] at h
    by_cases c2 : pr_is T t q 46 = true
    · rw [if_pos c2] at h
      cases h2 : pr_num T t 1 99 (q + 1) with
      | none => rw [h2] at h; cases h
      | some nq => obtain ⟨n, q2⟩ := nq; rw [h2] at h; cases h
    · rw [if_neg c2] at h
      by_cases c3 : pr_is T t q 102 = true
      · rw [if_pos c3] at h
        obtain ⟨-, e, g⟩ := pr_touch_some h
        exact ⟨by omega, g⟩
      · rw [if_neg c3] at h
        by_cases c4 : pr_is T t q 98 = true
        · rw [if_pos c4] at h
          obtain ⟨-, e, g⟩ := pr_touch_some h
          exact ⟨by omega, g⟩
        · rw [if_neg c4] at h; cases h
theorem nI_ne_none {q : Nat} (h : q < 1000) : ¬ nI q = -1000006 := by
  intro z
  have h1 := nI_toInt (n := q) (by omega)
  rw [z] at h1
  have h2 : (-1000006 : Int32).toInt = -1000006 := by decide
  omega
/-- while there is no fault, a deed is there -/
theorem rp_good {X : jx_T} {t n : Nat} (hX : jx_tpn X t (jx_pos X)) (hF : pr_fault (jx_tx X) t (n + 1) (jx_pos X) = -1000006) :
    ∃ (q1 k d x : Nat) (z a' b' c' d' : Int32), pr_deed (jx_tx X) t (jx_pos X) = (q1, some (k, d, x, z)) ∧ jx_pos X ≤ q1 ∧ q1 ≤ t ∧ sX5_readsDeed X = jx_ru X q1 a' b' c' d' ∧ rp_ok (some (k, d, x, z)) (rX5_readsDeed X) a' b' c' d' ∧ (k = 0 → d ≤ 1 ∧ x ≤ 11) ∧
      (if pr_is (jx_tx X) t q1 59 = true then pr_fault (jx_tx X) t n (q1 + 1) = -1000006 else q1 = t) := by
  obtain ⟨h60, hq, ht, hs⟩ := hX
  obtain ⟨a', b', c', d', g1, g2⟩ := rp_deed (N := X) (t := t) (q := jx_pos X) (a := jx_nu X) (b := jx_le X) (c := jx_pl X) (d := jx_cg X) ht h60 hq
  rw [← ru_of hs] at g1 g2
  have hle := pr_deed_le (T := jx_tx X) hq
  have hsm := @pr_deed_some (jx_tx X) t (jx_pos X)
  unfold pr_fault at hF
  cases hd : pr_deed (jx_tx X) t (jx_pos X) with
  | mk q1 o =>
    rw [hd] at g1 g2 hle hF hsm
    dsimp only at g1 g2 hle hF hsm
    cases o with
    | none =>
      exact absurd hF (nI_ne_none (by omega))
    | some w =>
      obtain ⟨k, d, x, z⟩ := w
      dsimp only at hF
      refine ⟨q1, k, d, x, z, a', b', c', d', rfl, hle.1, hle.2, g1, g2, hsm rfl, ?_⟩
      by_cases c1 : pr_is (jx_tx X) t q1 59 = true
      · rw [if_pos c1] at hF ⊢
        exact hF
      · rw [if_neg c1] at hF ⊢
        by_cases c2 : q1 = t
        · exact c2
        · rw [if_neg c2] at hF
          exact absurd hF (nI_ne_none (by omega))
theorem rp_cell {a' b' c' d' z r : Int32} {k d x : Nat} {N : jx_T} {q1 : Nat} (h : rp_ok (some (k, d, x, z)) r a' b' c' d') (hk : k = 0 → d ≤ 1 ∧ x ≤ 11) (h1 : ¬ jx_le (jx_ru N q1 a' b' c' d') = 46) (h2 : ¬ jx_le (jx_ru N q1 a' b' c' d') = 120) :
    vp_in (rX5_cell (if jx_le (jx_ru N q1 a' b' c' d') = 102 then 0 else 1) (jx_pl (jx_ru N q1 a' b' c' d'))) 67 ∧ (rX5_cell (if jx_le (jx_ru N q1 a' b' c' d') = 102 then 0 else 1) (jx_pl (jx_ru N q1 a' b' c' d'))).toNatClampNeg ≠ 12 := by
  rw [ru_le] at h1 h2 ⊢
  rw [ru_pl]
  obtain ⟨-, h | h | h⟩ := h
  · exact absurd h.2 h2
  · exact absurd h.2.1 h1
  · obtain ⟨e0, -, -, e1, e2, -⟩ := h
    obtain ⟨hd, hx⟩ := hk e0
    rw [e1, e2]
    have hd01 : nI d = 0 ∨ nI d = 1 := by
      rcases (show d = 0 ∨ d = 1 by omega) with e | e <;> rw [e]
      · exact Or.inl rfl
      · exact Or.inr rfl
    have := jx_d1 hd01
    refine ⟨jx_cell_in hd01 (by omega), ?_⟩
    rw [jx_cell _ _ hd01, jk_cl (by omega)]
    omega
theorem ru_ual (N : jx_T) (q : Nat) (a b c d : Int32) (f : Nat → Int32) : jx_ual (jx_ru N q a b c d) f = jx_ru (jx_ual N f) q a b c d := rfl
theorem ru_tx2 (N : jx_T) (f : Nat → Int32) : jx_tx (jx_ual N f) = jx_tx N := rfl
theorem ru_tl2 (N : jx_T) (f : Nat → Int32) : jx_tl (jx_ual N f) = jx_tl N := rfl
theorem ru_pos (N : jx_T) {q : Nat} (h : q < 2 ^ 31) (a b c d : Int32) : jx_pos (jx_ru N q a b c d) = q := by
  unfold jx_pos
  rw [ru_sp, jk_cl h]
/-- run()'s loop: n deeds at most; the sparks so far -/
def lx_rn : Nat → jx_T → Int32 → Int32 × jx_T
  | 0, X, acc => (acc, X)
  | n + 1, X, acc => if rX5_takesOne (sX5_does (sX5_readsDeed X)) 59 = 0 then (acc + rX5_does (sX5_readsDeed X), sX5_takesOne (sX5_does (sX5_readsDeed X)) 59)
      else lx_rn n (sX5_takesOne (sX5_does (sX5_readsDeed X)) 59) (acc + rX5_does (sX5_readsDeed X))
def lx_rE (b : Int32) (n : Nat) (X : jx_T) (acc : Int32) : Int32 × jx_T := if b = 0 then (acc, X) else lx_rn n X acc
theorem lx_rE_0 (X : jx_T) (acc : Int32) : lx_rE 1 (61 - 0) X acc = lx_rn 61 X acc := if_neg (by decide)
theorem lx_rn_fin {b : Int32} {n : Nat} {X : jx_T} {acc : Int32} {Y : Int32 × jx_T} (c : b = 0) (hE : lx_rE b n X acc = Y) : (acc, X) = Y := by
  rw [← hE]
  unfold lx_rE
  rw [if_pos c]
theorem lx_rn_next {b : Int32} {k : Nat} {X : jx_T} {acc : Int32} {Y : Int32 × jx_T} (hk : k < 61) (c : ¬ b = 0) (hE : lx_rE b (61 - k) X acc = Y) :
    lx_rE (rX5_takesOne (sX5_does (sX5_readsDeed X)) 59) (61 - (k + 1)) (sX5_takesOne (sX5_does (sX5_readsDeed X)) 59) (acc + rX5_does (sX5_readsDeed X)) = Y := by
  rw [← hE]
  unfold lx_rE
  rw [if_neg c, show 61 - k = (61 - (k + 1)) + 1 by omega, lx_rn]
/-- what holds at the head of run()'s loop -/
def lx_rI (t k : Nat) (b : Int32) (X : jx_T) : Prop := jx_tpn X t (jx_pos X) ∧ jx_ok (jx_al X) ∧ (b = 0 ∨ k ≤ jx_pos X ∧ pr_fault (jx_tx X) t (61 - k) (jx_pos X) = -1000006)
theorem lx_rI_deed {t k : Nat} {b : Int32} {X : jx_T} (h : lx_rI t k b X) (c : ¬ b = 0) : jx_tp (sX5_readsDeed X) ∧ jx_ok (jx_al (sX5_readsDeed X)) ∧
    (¬ jx_le (sX5_readsDeed X) = 46 → ¬ jx_le (sX5_readsDeed X) = 120 → vp_in (rX5_cell (if jx_le (sX5_readsDeed X) = 102 then 0 else 1) (jx_pl (sX5_readsDeed X))) 67) ∧ jx_tp (sX5_does (sX5_readsDeed X)) ∧
    lx_rI t (k + 1) (rX5_takesOne (sX5_does (sX5_readsDeed X)) 59) (sX5_takesOne (sX5_does (sX5_readsDeed X)) 59) := by
  obtain ⟨hX, hok, hb⟩ := h
  obtain ⟨hk, hF⟩ := hb.resolve_left c
  have hk60 : k ≤ 60 := by
    have h1 := hX.1
    have h2 := hX.2.1
    omega
  rw [show 61 - k = (61 - (k + 1)) + 1 by omega] at hF
  obtain ⟨q1, k', d, x, z, a', b', c', d', hd, g1, g2, e1, ho, h0, hnext⟩ := rp_good hX hF
  obtain ⟨h60, hq, ht, hs⟩ := hX
  have hcell := fun u v => rp_cell (N := X) (q1 := q1) ho h0 u v
  rw [← e1] at hcell
  have hokD : jx_ok (jx_al (sX5_readsDeed X)) := by rw [e1]; exact hok
  have hokE := jx_ok_does hokD hcell
  obtain ⟨f, hf⟩ := jo_does (sX5_readsDeed X)
  rw [e1, ru_ual] at hf
  have htp : jx_tpn (sX5_readsDeed X) t q1 := by rw [e1]; exact ⟨h60, g2, ht, rfl⟩
  have htpE : jx_tpn (sX5_does (sX5_readsDeed X)) t q1 := by rw [e1, hf]; exact ⟨h60, g2, ht, rfl⟩
  refine ⟨htp.tp, hokD, fun u v => (hcell u v).1, htpE.tp, ?_⟩
  have o1 := rp_one (N := jx_ual X f) (t := t) (q := q1) (a := a') (b := b') (c := c') (d := d') (v := 59) (by rw [ru_tl2, ht]) h60 g2
  rw [ru_tx2] at o1
  rw [e1] at hokE
  rw [hf] at hokE
  rw [e1, hf]
  by_cases c1 : pr_is (jx_tx X) t q1 59 = true
  · obtain ⟨k1, k2⟩ := o1.1 c1
    have l1 := (pr_is_lt c1).1
    rw [if_pos c1] at hnext
    rw [k1, k2]
    refine ⟨?_, ?_, Or.inr ⟨?_, ?_⟩⟩
    · rw [ru_pos _ (by omega)]
      exact ⟨h60, l1, ht, rfl⟩
    · exact hokE
    · rw [ru_pos _ (by omega)]
      omega
    · rw [ru_pos _ (by omega)]
      exact hnext
  · obtain ⟨k1, k2⟩ := o1.2 c1
    rw [k1, k2]
    refine ⟨?_, ?_, Or.inl rfl⟩
    · rw [ru_pos _ (by omega)]
      exact ⟨h60, g2, ht, rfl⟩
    · exact hokE
theorem lx_rI_lt {t k : Nat} {b : Int32} {X : jx_T} (h : lx_rI t k b X) (c : ¬ b = 0) : k < 61 := by
  have h1 := h.1.1
  have h2 := h.1.2.1
  have h3 := (h.2.2.resolve_left c).1
  omega
/-- the fault, as 'pr_fault' says; the reader alone moves -/
theorem rp_fl : ∀ (n : Nat) (N : jx_T) (t q : Nat) (a b c d : Int32), jx_tl N = nI t → t ≤ 60 → q ≤ t → ∃ (q' : Nat) (a' b' c' d' : Int32), lx_fl n (jx_ru N q a b c d) = (pr_fault (jx_tx N) t n q, jx_ru N q' a' b' c' d')
  | 0, N, t, q, a, b, c, d, _, _, _ => ⟨q, a, b, c, d, rfl⟩
  | n + 1, N, t, q, a, b, c, d, ht, h60, hq => by
    obtain ⟨a', b', c', d', g1, g2⟩ := rp_deed (N := N) (t := t) (q := q) (a := a) (b := b) (c := c) (d := d) ht h60 hq
    have hle := pr_deed_le (T := jx_tx N) hq
    rw [lx_fl, g1]
    unfold pr_fault
    cases hd : pr_deed (jx_tx N) t q with
    | mk q1 o =>
      rw [hd] at g2 hle
      dsimp only at g2 hle ⊢
      cases o with
      | none =>
        rw [if_pos (show rX5_readsDeed (jx_ru N q a b c d) = 0 from g2), ru_sp]
        exact ⟨_, _, _, _, _, rfl⟩
      | some w =>
        have h1 : rX5_readsDeed (jx_ru N q a b c d) = 1 := g2.1
        rw [if_neg (by rw [h1]; decide)]
        dsimp only
        have o1 := rp_one (N := N) (t := t) (q := q1) (a := a') (b := b') (c := c') (d := d') (v := 59) ht h60 hle.2
        by_cases c1 : pr_is (jx_tx N) t q1 59 = true
        · obtain ⟨k1, k2⟩ := o1.1 c1
          have l1 := (pr_is_lt c1).1
          rw [k1, k2, if_neg (show ¬ (1 : Int32) = 0 by decide), if_pos c1]
          exact rp_fl n N t (q1 + 1) a' b' c' d' ht h60 l1
        · obtain ⟨k1, k2⟩ := o1.2 c1
          rw [k1, k2, if_pos rfl, if_neg c1]
          unfold lx_fin
          rw [ru_sp, ru_tl, ht]
          have hc : nI q1 = nI t ↔ q1 = t := nI_eq (by omega) (by omega)
          by_cases c2 : q1 = t
          · rw [if_pos c2, if_pos (hc.mpr c2)]
            exact ⟨_, _, _, _, _, rfl⟩
          · rw [if_neg c2, if_neg (fun z => c2 (hc.mp z))]
            exact ⟨_, _, _, _, _, rfl⟩
theorem ru_usp0 (M : jx_T) : jx_usp M 0 = jx_ru M 0 (jx_nu M) (jx_le M) (jx_pl M) (jx_cg M) := rfl
theorem rp_fault {M : jx_T} {t : Nat} (ht : jx_tl M = nI t) (h60 : t ≤ 60) : ∃ (q' : Nat) (a' b' c' d' : Int32), lx_fl 61 (jx_usp M 0) = (pr_fault (jx_tx M) t 61 0, jx_ru M q' a' b' c' d') := by
  rw [ru_usp0]
  exact rp_fl 61 M t 0 _ _ _ _ ht h60 (Nat.zero_le _)
theorem lx_rI_0 {M : jx_T} {t nh : Nat} (ht : jx_tl M = nI t) (h60 : t ≤ 60) (hk0 : jx_ok (jx_al M)) (c : (lx_fl 61 (jx_usp M 0)).1 = -1000006) : lx_rI t 0 1 (jx_usp (lx_chg (lx_fl 61 (jx_usp M 0)).2 nh) 0) := by
  obtain ⟨q', a', b', c', d', e⟩ := rp_fault ht h60
  rw [e] at c ⊢
  exact ⟨⟨h60, Nat.zero_le _, ht, rfl⟩, hk0, Or.inr ⟨Nat.zero_le _, c⟩⟩
theorem rp_fault_hl {M : jx_T} {t : Nat} (ht : jx_tl M = nI t) (h60 : t ≤ 60) : jx_hl (lx_fl 61 (jx_usp M 0)).2 = jx_hl M := by
  obtain ⟨q', a', b', c', d', e⟩ := rp_fault ht h60
  rw [e]
  rfl
