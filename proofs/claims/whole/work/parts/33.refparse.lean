/-! ===== the reference reads as 'pr_' says ===== -/
/-- the reader at the place q, with its number, letter, place, charge -/
def jx_ru (N : jx_T) (q : Nat) (nu le pl cg : Int32) : jx_T := (jx_al N, jx_kp N, jx_hi N, jx_sl N, jx_sv N, jx_tx N, jx_hl N, jx_tl N, nI q, nu, le, pl, cg)
theorem ru_tl (N : jx_T) (q : Nat) (a b c d : Int32) : jx_tl (jx_ru N q a b c d) = jx_tl N := rfl
theorem ru_tx (N : jx_T) (q : Nat) (a b c d : Int32) : jx_tx (jx_ru N q a b c d) = jx_tx N := rfl
theorem ru_sp (N : jx_T) (q : Nat) (a b c d : Int32) : jx_sp (jx_ru N q a b c d) = nI q := rfl
theorem ru_nu (N : jx_T) (q : Nat) (a b c d : Int32) : jx_nu (jx_ru N q a b c d) = a := rfl
theorem ru_le (N : jx_T) (q : Nat) (a b c d : Int32) : jx_le (jx_ru N q a b c d) = b := rfl
theorem ru_pl (N : jx_T) (q : Nat) (a b c d : Int32) : jx_pl (jx_ru N q a b c d) = c := rfl
theorem ru_cg (N : jx_T) (q : Nat) (a b c d : Int32) : jx_cg (jx_ru N q a b c d) = d := rfl
theorem ru_usp (N : jx_T) (q q' : Nat) (a b c d : Int32) : jx_usp (jx_ru N q a b c d) (nI q') = jx_ru N q' a b c d := rfl
theorem ru_unu (N : jx_T) (q : Nat) (a b c d x : Int32) : jx_unu (jx_ru N q a b c d) x = jx_ru N q x b c d := rfl
theorem ru_ule (N : jx_T) (q : Nat) (a b c d x : Int32) : jx_ule (jx_ru N q a b c d) x = jx_ru N q a x c d := rfl
theorem ru_upl (N : jx_T) (q : Nat) (a b c d x : Int32) : jx_upl (jx_ru N q a b c d) x = jx_ru N q a b x d := rfl
theorem ru_ucg (N : jx_T) (q : Nat) (a b c d x : Int32) : jx_ucg (jx_ru N q a b c d) x = jx_ru N q a b c x := rfl
theorem ru_of {M : jx_T} {q : Nat} (h : jx_sp M = nI q) : M = jx_ru M q (jx_nu M) (jx_le M) (jx_pl M) (jx_cg M) := by
  unfold jx_ru
  rw [← h]
  rfl
theorem rp_here {N : jx_T} {t q : Nat} {a b c d u v : Int32} (ht : jx_tl N = nI t) (h60 : t ≤ 60) (hq : q ≤ t) : rX5_isHere (jx_ru N q a b c d) u v = if q < t ∧ u.toInt ≤ (jx_tx N q).toInt ∧ (jx_tx N q).toInt ≤ v.toInt then 1 else 0 := by
  unfold rX5_isHere
  dsimp only
  rw [ru_tl, ru_sp, ru_tx, ht, jk_cl (by omega)]
  by_cases c1 : nI t ≤ nI q
  · rw [if_pos c1, if_neg]
    intro h
    exact nI_ge h.1 (by omega) c1
  · rw [if_neg c1]
    have hlt : q < t := by
      rcases Nat.lt_or_ge q t with z | z
      · exact z
      · exact absurd (nI_le z (by omega)) c1
    have hi := rX5_in_iff (jx_tx N q) u.toInt64 v.toInt64
    rw [Int32.toInt_toInt64, Int32.toInt_toInt64] at hi
    by_cases c2 : rX5_in (jx_tx N q).toInt64 u.toInt64 v.toInt64 = 0
    · rw [if_pos c2, if_neg]
      intro h
      exact hi.mpr h.2 c2
    · rw [if_neg c2, if_pos]
      exact ⟨hlt, hi.mp c2⟩
theorem rp_one {N : jx_T} {t q : Nat} {a b c d v : Int32} (ht : jx_tl N = nI t) (h60 : t ≤ 60) (hq : q ≤ t) :
    (pr_is (jx_tx N) t q v = true → rX5_takesOne (jx_ru N q a b c d) v = 1 ∧ sX5_takesOne (jx_ru N q a b c d) v = jx_ru N (q + 1) a b c d) ∧
    (¬ pr_is (jx_tx N) t q v = true → rX5_takesOne (jx_ru N q a b c d) v = 0 ∧ sX5_takesOne (jx_ru N q a b c d) v = jx_ru N q a b c d) := by
  have hh := rp_here (a := a) (b := b) (c := c) (d := d) (u := v) (v := v) ht h60 hq
  have hcond : (q < t ∧ v.toInt ≤ (jx_tx N q).toInt ∧ (jx_tx N q).toInt ≤ v.toInt) ↔ pr_is (jx_tx N) t q v = true := by
    unfold pr_is
    rw [Bool.and_eq_true, decide_eq_true_eq, decide_eq_true_eq]
    constructor
    · intro h
      exact ⟨h.1, Int32.toInt_inj.mp (by omega)⟩
    · intro h
      rw [h.2]
      exact ⟨h.1, Int.le_refl _, Int.le_refl _⟩
  constructor
  · intro h
    rw [if_pos (hcond.mpr h)] at hh
    refine ⟨(rX5_one _ _).trans hh, ?_⟩
    unfold sX5_takesOne
    dsimp only
    rw [hh, if_neg (show ¬ (1 : Int32) = 0 by decide), ru_sp, nI_1, ru_usp]
  · intro h
    rw [if_neg (fun z => h (hcond.mp z))] at hh
    refine ⟨(rX5_one _ _).trans hh, ?_⟩
    unfold sX5_takesOne
    dsimp only
    rw [hh, if_pos rfl, ru_sp, Int32.add_zero, ru_usp]
theorem rp_dg {T : Nat → Int32} {t q : Nat} (lo : Nat) (hlo : lo ≤ 9) : (q < t ∧ (nI (48 + lo)).toInt ≤ (T q).toInt ∧ (T q).toInt ≤ (57 : Int32).toInt) ↔ ∃ d, pr_dg T t q = some d ∧ lo ≤ d := by
  have e57 : (57 : Int32).toInt = 57 := by decide
  rw [e57, nI_toInt (by omega)]
  constructor
  · intro h
    refine ⟨(T q).toInt.toNat - 48, ?_, by omega⟩
    unfold pr_dg
    rw [if_pos ⟨h.1, by omega, h.2.2⟩]
  · rintro ⟨d, hd, hl⟩
    obtain ⟨h1, h2, h3⟩ := pr_dg_le hd
    omega
theorem rp_num {N : jx_T} {t q lo hi : Nat} {a b c d : Int32} (ht : jx_tl N = nI t) (h60 : t ≤ 60) (hq : q ≤ t) (hlo : lo ≤ 1) (hhi : 9 ≤ hi ∧ hi ≤ 99) :
    (pr_num (jx_tx N) t lo hi q = none → rX5_readsNumber (jx_ru N q a b c d) (nI lo) (nI hi) = 0 ∧ sX5_readsNumber (jx_ru N q a b c d) (nI lo) (nI hi) = jx_ru N q a b c d) ∧
    (∀ n q' : Nat, pr_num (jx_tx N) t lo hi q = some (n, q') → rX5_readsNumber (jx_ru N q a b c d) (nI lo) (nI hi) = 1 ∧ sX5_readsNumber (jx_ru N q a b c d) (nI lo) (nI hi) = jx_ru N q' (nI n) b c d) := by
  have e48 : (48 + nI lo : Int32) = nI (48 + lo) := by rw [show (48 : Int32) = nI 48 from rfl, nI_add]
  have hh := rp_here (a := a) (b := b) (c := c) (d := d) (u := 48 + nI lo) (v := 57) ht h60 hq
  rw [e48] at hh
  unfold rX5_readsNumber sX5_readsNumber
  dsimp only
  rw [e48]
  by_cases g : ∃ x, pr_dg (jx_tx N) t q = some x ∧ lo ≤ x
  · rw [if_pos ((rp_dg lo (by omega)).mpr g)] at hh
    obtain ⟨x, hx, hxl⟩ := g
    obtain ⟨x9, xlt, -⟩ := pr_dg_le hx
    have h10 : ¬ (1 : Int32) = 0 := by decide
    rw [hh, if_neg h10, if_neg h10, ru_sp, ru_tx, jk_cl (by omega), pr_dg_val hx, nI_1]
    have e1 : (nI (48 + x) - 48 : Int32) = nI x := by rw [show (48 : Int32) = nI 48 from rfl, pk_sub (by omega), Nat.add_sub_cancel_left]
    rw [e1, ru_usp, ru_unu, jk_cl (by omega)]
    unfold pr_num
    rw [hx]
    dsimp only
    rw [if_neg (by omega)]
    have hle0 : nI x ≤ 0 ↔ x = 0 := by
      rw [show (0 : Int32) = nI 0 from rfl, nI_leI (by omega) (by omega)]
      omega
    by_cases x0 : x = 0
    · rw [if_pos x0, if_pos (hle0.mpr x0), if_pos (hle0.mpr x0)]
      refine ⟨fun h => (by cases h), fun n q' h => ?_⟩
      cases h
      exact ⟨rfl, by rw [x0]⟩
    · rw [if_neg x0, if_neg (fun z => x0 (hle0.mp z)), if_neg (fun z => x0 (hle0.mp z))]
      have h2 := rp_here (N := N) (t := t) (q := q + 1) (a := nI x) (b := b) (c := c) (d := d) (u := 48) (v := 57) ht h60 xlt
      have r2 := rp_dg (T := jx_tx N) (t := t) (q := q + 1) 0 (by omega)
      rw [show nI (48 + 0) = 48 from rfl] at r2
      cases hy : pr_dg (jx_tx N) t (q + 1) with
      | none =>
        rw [if_neg (fun z => by obtain ⟨y, e, -⟩ := r2.mp z; rw [hy] at e; cases e)] at h2
        dsimp only
        rw [h2, if_pos rfl, if_pos rfl]
        refine ⟨fun h => (by cases h), fun n q' h => ?_⟩
        cases h
        exact ⟨rfl, rfl⟩
      | some y =>
        obtain ⟨y9, ylt, -⟩ := pr_dg_le hy
        rw [if_pos (r2.mpr ⟨y, hy, Nat.zero_le _⟩)] at h2
        dsimp only
        rw [h2, if_neg h10, if_neg h10, pr_dg_val hy]
        have e2 : (10 * nI x + nI (48 + y) : Int32) = nI (10 * x + (48 + y)) := by rw [show (10 : Int32) = nI 10 from rfl, pk_mul, nI_add]
        have e3 : (nI (10 * x + (48 + y)) - 48 : Int32) = nI (10 * x + y) := by
          rw [show (48 : Int32) = nI 48 from rfl, pk_sub (by omega)]
          congr 1
          omega
        rw [e2, e3, nI_1, ru_usp, ru_unu]
        have hlt : nI hi < nI (10 * x + y) ↔ hi < 10 * x + y := nI_ltI (by omega) (by omega)
        by_cases z : hi < 10 * x + y
        · rw [if_pos z, if_pos (hlt.mpr z), if_pos (hlt.mpr z)]
          refine ⟨fun h => (by cases h), fun n q' h => ?_⟩
          cases h
          exact ⟨rfl, rfl⟩
        · rw [if_neg z, if_neg (fun w => z (hlt.mp w)), if_neg (fun w => z (hlt.mp w))]
          refine ⟨fun h => (by cases h), fun n q' h => ?_⟩
          cases h
          exact ⟨rfl, rfl⟩
  · rw [if_neg (fun z => g ((rp_dg lo (by omega)).mp z))] at hh
    rw [hh, if_pos rfl, if_pos rfl]
    have hn : pr_num (jx_tx N) t lo hi q = none := by
      unfold pr_num
      cases hx : pr_dg (jx_tx N) t q with
      | none => rfl
      | some x =>
        dsimp only
        rw [if_pos]
        rcases Nat.lt_or_ge x lo with z | z
        · exact z
        · exact absurd ⟨x, hx, z⟩ g
    rw [hn]
    exact ⟨fun _ => ⟨rfl, rfl⟩, fun n q' h => by cases h⟩
/-- what a deed leaves in the reader -/
def rp_ok (o : Option (Nat × Nat × Nat × Int32)) (r nu le pl cg : Int32) : Prop :=
  match o with
  | none => r = 0
  | some (k, d, x, z) => r = 1 ∧ (k = 2 ∧ le = 120 ∨ k = 1 ∧ le = 46 ∧ nu = nI x ∨ k = 0 ∧ ¬ le = 46 ∧ ¬ le = 120 ∧ (if le = 102 then (0 : Int32) else 1) = nI d ∧ pl = nI x ∧ cg = z)
theorem rp_touch {N : jx_T} {t q : Nat} {a b c d : Int32} (ht : jx_tl N = nI t) (h60 : t ≤ 60) (hq : q ≤ t) (dd : Nat) (hb : ¬ b = 46 ∧ ¬ b = 120 ∧ (if b = 102 then (0 : Int32) else 1) = nI dd) :
    ∃ a' c' d' : Int32, sX5_readsTouch (jx_ru N q a b c d) = jx_ru N (pr_touch (jx_tx N) t q dd).1 a' b c' d' ∧ rp_ok (pr_touch (jx_tx N) t q dd).2 (rX5_readsTouch (jx_ru N q a b c d)) a' b c' d' := by
  unfold sX5_readsTouch rX5_readsTouch pr_touch
  dsimp only
  have e0 : (0 : Int32) = nI 0 := rfl
  have e11 : (11 : Int32) = nI 11 := rfl
  have e99 : (99 : Int32) = nI 99 := rfl
  have h10 : ¬ (1 : Int32) = 0 := by decide
  have n1 := rp_num (lo := 0) (hi := 11) (a := a) (b := b) (c := c) (d := d) ht h60 hq (by omega) (by omega)
  rw [← e0, ← e11] at n1
  cases h1 : pr_num (jx_tx N) t 0 11 q with
  | none =>
    obtain ⟨f1, f2⟩ := n1.1 h1
    rw [f1, f2, if_pos rfl, if_pos rfl, ru_nu, ru_upl]
    exact ⟨_, _, _, rfl, rfl⟩
  | some pq =>
    obtain ⟨p, q1⟩ := pq
    obtain ⟨f1, f2⟩ := n1.2 p q1 h1
    have g1 := pr_num_le (by omega) h1
    rw [f1, f2, if_neg h10, if_neg h10, ru_nu, ru_upl]
    dsimp only
    have o1 := rp_one (N := N) (t := t) (q := q1) (a := nI p) (b := b) (c := nI p) (d := d) (v := 61) ht h60 (by omega)
    by_cases c1 : pr_is (jx_tx N) t q1 61 = true
    · obtain ⟨k1, k2⟩ := o1.1 c1
      have l1 := (pr_is_lt c1).1
      rw [k1, k2, if_neg h10, if_neg h10, if_pos c1]
      have o2 := rp_one (N := N) (t := t) (q := q1 + 1) (a := nI p) (b := b) (c := nI p) (d := d) (v := 45) ht h60 (by omega)
      have key : ∃ x : Int32, rX5_takesOne (jx_ru N (q1 + 1) (nI p) b (nI p) d) 45 = x ∧ sX5_takesOne (jx_ru N (q1 + 1) (nI p) b (nI p) d) 45 = jx_ru N (if pr_is (jx_tx N) t (q1 + 1) 45 = true then q1 + 2 else q1 + 1) (nI p) b (nI p) d ∧
          (x = 0 ↔ ¬ pr_is (jx_tx N) t (q1 + 1) 45 = true) ∧ (if pr_is (jx_tx N) t (q1 + 1) 45 = true then q1 + 2 else q1 + 1) ≤ t := by
        by_cases c2 : pr_is (jx_tx N) t (q1 + 1) 45 = true
        · obtain ⟨m1, m2⟩ := o2.1 c2
          have l2 := (pr_is_lt c2).1
          rw [if_pos c2]
          exact ⟨1, m1, m2, ⟨fun z => absurd z h10, fun z => absurd c2 z⟩, by omega⟩
        · obtain ⟨m1, m2⟩ := o2.2 c2
          rw [if_neg c2]
          exact ⟨0, m1, m2, ⟨fun _ => c2, fun _ => rfl⟩, by omega⟩
      obtain ⟨x, m1, m2, m3, m4⟩ := key
      rw [m1, m2]
      have hneg : ∀ n : Nat, (if x = 0 then nI n else -nI n) = (if pr_is (jx_tx N) t (q1 + 1) 45 = true then -nI n else nI n) := by
        intro n
        by_cases c2 : pr_is (jx_tx N) t (q1 + 1) 45 = true
        · rw [if_pos c2, if_neg (fun z => m3.mp z c2)]
        · rw [if_neg c2, if_pos (m3.mpr c2)]
      generalize (if pr_is (jx_tx N) t (q1 + 1) 45 = true then q1 + 2 else q1 + 1) = z at m4 ⊢
      have n2 := rp_num (N := N) (t := t) (q := z) (lo := 0) (hi := 99) (a := nI p) (b := b) (c := nI p) (d := d) ht h60 m4 (by omega) (by omega)
      rw [← e0, ← e99] at n2
      cases h2 : pr_num (jx_tx N) t 0 99 z with
      | none =>
        obtain ⟨f1, f2⟩ := n2.1 h2
        rw [f1, f2, ru_nu, ru_ucg]
        exact ⟨_, _, _, rfl, rfl⟩
      | some nq =>
        obtain ⟨n, q2⟩ := nq
        obtain ⟨f1, f2⟩ := n2.2 n q2 h2
        rw [f1, f2, ru_nu, ru_ucg, hneg n]
        exact ⟨_, _, _, rfl, rfl, Or.inr (Or.inr ⟨rfl, hb.1, hb.2.1, hb.2.2, rfl, rfl⟩)⟩
    · obtain ⟨k1, k2⟩ := o1.2 c1
      rw [k1, k2, if_pos rfl, if_pos rfl, if_neg c1]
      exact ⟨_, _, _, rfl, rfl⟩
theorem rp_deed {N : jx_T} {t q : Nat} {a b c d : Int32} (ht : jx_tl N = nI t) (h60 : t ≤ 60) (hq : q ≤ t) :
    ∃ a' b' c' d' : Int32, sX5_readsDeed (jx_ru N q a b c d) = jx_ru N (pr_deed (jx_tx N) t q).1 a' b' c' d' ∧ rp_ok (pr_deed (jx_tx N) t q).2 (rX5_readsDeed (jx_ru N q a b c d)) a' b' c' d' := by
  unfold sX5_readsDeed rX5_readsDeed pr_deed
  dsimp only
  have h10 : ¬ (1 : Int32) = 0 := by decide
  have hlet : (if jx_tl (jx_ru N q a b c d) ≤ jx_sp (jx_ru N q a b c d) then (0 : Int32) else jx_tx (jx_ru N q a b c d) (jx_sp (jx_ru N q a b c d)).toNatClampNeg) = (if q < t then jx_tx N q else 0) := by
    rw [ru_tl, ru_sp, ru_tx, ht, jk_cl (by omega)]
    by_cases c1 : nI t ≤ nI q
    · rw [if_pos c1, if_neg]
      intro h
      exact nI_ge h (by omega) c1
    · rw [if_neg c1, if_pos]
      rcases Nat.lt_or_ge q t with z | z
      · exact z
      · exact absurd (nI_le z (by omega)) c1
  rw [hlet, ru_ule]
  generalize hL : (if q < t then jx_tx N q else 0) = L
  have hch : ∀ v : Int32, pr_is (jx_tx N) t q v = true → L = v := by
    intro v h
    obtain ⟨h1, h2⟩ := pr_is_lt h
    rw [← hL, if_pos h1, h2]
  have o1 := rp_one (N := N) (t := t) (q := q) (a := a) (b := L) (c := c) (d := d) (v := 120) ht h60 hq
  by_cases c1 : pr_is (jx_tx N) t q 120 = true
  · obtain ⟨k1, k2⟩ := o1.1 c1
    rw [k1, k2, if_neg h10, if_neg h10, if_pos c1]
    exact ⟨_, _, _, _, rfl, rfl, Or.inl ⟨rfl, hch _ c1⟩⟩
  · obtain ⟨k1, k2⟩ := o1.2 c1
    rw [k1, k2, if_pos rfl, if_pos rfl, if_neg c1]
    have o2 := rp_one (N := N) (t := t) (q := q) (a := a) (b := L) (c := c) (d := d) (v := 46) ht h60 hq
    by_cases c2 : pr_is (jx_tx N) t q 46 = true
    · obtain ⟨m1, m2⟩ := o2.1 c2
      have l2 := (pr_is_lt c2).1
      rw [m1, m2, if_neg h10, if_neg h10, if_pos c2]
      have n2 := rp_num (N := N) (t := t) (q := q + 1) (lo := 1) (hi := 99) (a := a) (b := L) (c := c) (d := d) ht h60 (by omega) (by omega) (by omega)
      rw [show nI 1 = (1 : Int32) from rfl, show nI 99 = (99 : Int32) from rfl] at n2
      cases h2 : pr_num (jx_tx N) t 1 99 (q + 1) with
      | none =>
        obtain ⟨f1, f2⟩ := n2.1 h2
        rw [f1, f2]
        exact ⟨_, _, _, _, rfl, rfl⟩
      | some nq =>
        obtain ⟨n, q2⟩ := nq
        obtain ⟨f1, f2⟩ := n2.2 n q2 h2
        rw [f1, f2]
        exact ⟨_, _, _, _, rfl, rfl, Or.inr (Or.inl ⟨rfl, hch _ c2, rfl⟩)⟩
    · obtain ⟨m1, m2⟩ := o2.2 c2
      rw [m1, m2, if_pos rfl, if_pos rfl, if_neg c2]
      have o3 := rp_one (N := N) (t := t) (q := q) (a := a) (b := L) (c := c) (d := d) (v := 102) ht h60 hq
      by_cases c3 : pr_is (jx_tx N) t q 102 = true
      · obtain ⟨p1, p2⟩ := o3.1 c3
        have l3 := (pr_is_lt c3).1
        have eL := hch _ c3
        rw [p1, p2, if_neg h10, if_neg h10, if_pos c3, ite_self]
        obtain ⟨a', c', d', g1, g2⟩ := rp_touch (N := N) (t := t) (q := q + 1) (a := a) (b := L) (c := c) (d := d) ht h60 l3 0 ⟨by rw [eL]; decide, by rw [eL]; decide, by rw [eL]; rfl⟩
        refine ⟨a', L, c', d', g1, ?_⟩
        have e01 : (if rX5_readsTouch (jx_ru N (q + 1) a L c d) = 0 then (0 : Int32) else 1) = rX5_readsTouch (jx_ru N (q + 1) a L c d) := by
          cases hp : (pr_touch (jx_tx N) t (q + 1) 0).2 with
          | none => rw [hp] at g2; rw [show rX5_readsTouch (jx_ru N (q + 1) a L c d) = 0 from g2]; rfl
          | some w => rw [hp] at g2; rw [show rX5_readsTouch (jx_ru N (q + 1) a L c d) = 1 from g2.1]; rfl
        rw [e01]
        exact g2
      · obtain ⟨p1, p2⟩ := o3.2 c3
        rw [p1, p2, if_pos rfl, if_pos rfl, if_neg c3]
        have o4 := rp_one (N := N) (t := t) (q := q) (a := a) (b := L) (c := c) (d := d) (v := 98) ht h60 hq
        by_cases c4 : pr_is (jx_tx N) t q 98 = true
        · obtain ⟨s1, s2⟩ := o4.1 c4
          have l4 := (pr_is_lt c4).1
          have eL := hch _ c4
          rw [s1, s2, if_neg h10, if_neg h10, if_pos c4, ite_self]
          obtain ⟨a', c', d', g1, g2⟩ := rp_touch (N := N) (t := t) (q := q + 1) (a := a) (b := L) (c := c) (d := d) ht h60 l4 1 ⟨by rw [eL]; decide, by rw [eL]; decide, by rw [eL]; rfl⟩
          refine ⟨a', L, c', d', g1, ?_⟩
          have e01 : (if rX5_readsTouch (jx_ru N (q + 1) a L c d) = 0 then (0 : Int32) else 1) = rX5_readsTouch (jx_ru N (q + 1) a L c d) := by
            cases hp : (pr_touch (jx_tx N) t (q + 1) 1).2 with
            | none => rw [hp] at g2; rw [show rX5_readsTouch (jx_ru N (q + 1) a L c d) = 0 from g2]; rfl
            | some w => rw [hp] at g2; rw [show rX5_readsTouch (jx_ru N (q + 1) a L c d) = 1 from g2.1]; rfl
          rw [e01]
          exact g2
        · obtain ⟨s1, s2⟩ := o4.2 c4
          rw [s1, s2, if_pos rfl, if_pos rfl, if_neg c4]
          exact ⟨_, _, _, _, rfl, rfl⟩
