/-! ===== a touch, written out ===== -/
def addc (P : jp_T) (t c : Nat) : jp_T := (upd (jp_sg P) t (nI c), nI (t + 1))
theorem ch_ok : ∀ c, c < 127 → 33 ≤ c → lc_ci 8 (nI c).toInt64 0 = nI 1 ∧ vp_nar .char ((((((nI c).toInt64.toUInt64 >>> ((8 * (nI 1 - 1 - nI 0)).toInt64.toUInt64 &&& Int64.toUInt64 63)).toInt64 &&& 255).toInt32).toUInt32 % 65536).toInt32) = nI c := by decide +kernel
theorem app_1 (f : Nat → Int32) (t : Nat) {c : Nat} (h1 : 33 ≤ c) (h2 : c < 127) : lc_app f t (nI c).toInt64 (nI 1) 1 = upd f t (nI c) := by
  have e := (ch_ok c h2 h1).2
  show upd f (t + 0) (vp_nar .char ((((((nI c).toInt64.toUInt64 >>> ((8 * (nI 1 - 1 - nI 0)).toInt64.toUInt64 &&& Int64.toUInt64 63)).toInt64 &&& 255).toInt32).toUInt32 % 65536).toInt32)) = _
  rw [e, Nat.add_zero]
theorem addc_at (P : jp_T) (t c : Nat) : jp_sg (addc P t c) t = nI c := pk_us
theorem addc_chs {P : jp_T} (h : jp_chs P) (t : Nat) {c : Nat} (h2 : c < 127) : jp_chs (addc P t c) := by
  intro j
  show narrow .char (.int (upd (jp_sg P) t (nI c) j)) = .int (upd (jp_sg P) t (nI c) j)
  unfold upd
  by_cases q : j = t
  · rw [if_pos q]
    exact (nar_all c (by omega)).2
  · rw [if_neg q]
    exact h j
theorem put_at {P : jp_T} {t c : Nat} (ht : jp_ln P = nI t) (h6 : t < 60) (h1 : 33 ≤ c) (h2 : c < 127) : (if lc_ci 8 (nI c).toInt64 0 = 0 then (-1000002 : Int32) else if jp_ln P + lc_ci 8 (nI c).toInt64 0 ≤ 60 then nI (t + 1) else (-1000004)) = nI (t + 1) ∧ (if lc_ci 8 (nI c).toInt64 0 = 0 then P else if jp_ln P + lc_ci 8 (nI c).toInt64 0 ≤ 60 then (jp_uln (jp_usg P (lc_app (jp_sg P) t (nI c).toInt64 (lc_ci 8 (nI c).toInt64 0) 1)) (nI (t + 1))) else P) = addc P t c := by
  have e := (ch_ok c h2 h1).1
  have a1 : ¬ nI 1 = 0 := by decide
  have a2 : nI t + nI 1 ≤ 60 := by
    rw [nI_add, show (60 : Int32) = nI 60 from rfl, nI_leI (by omega) (by omega)]
    omega
  rw [e, ht, if_neg a1, if_pos a2, if_neg a1, if_pos a2, app_1 _ _ h1 h2]
  exact ⟨rfl, rfl⟩
def nlen (n : Nat) : Nat := if n < 10 then 1 else 2
def addn (P : jp_T) (t n : Nat) : jp_T := if n < 10 then addc P t (48 + n) else addc (addc P t (48 + n / 10)) (t + 1) (48 + n % 10)
theorem addn_ln (P : jp_T) (t n : Nat) : jp_ln (addn P t n) = nI (t + nlen n) := by
  unfold addn nlen
  by_cases c : n < 10
  · rw [if_pos c, if_pos c]
    rfl
  · rw [if_neg c, if_neg c]
    rfl
theorem addn_lo (P : jp_T) {t j : Nat} (n : Nat) (h : j < t) : jp_sg (addn P t n) j = jp_sg P j := by
  unfold addn
  by_cases c : n < 10
  · rw [if_pos c]
    exact pk_un (by omega)
  · rw [if_neg c]
    exact (pk_un (by omega)).trans (pk_un (by omega))
/-- a number stands there -/
def isn (T : Nat → Int32) (q n : Nat) : Prop := (n < 10 ∧ T q = nI (48 + n)) ∨ (10 ≤ n ∧ T q = nI (48 + n / 10) ∧ T (q + 1) = nI (48 + n % 10))
theorem addn_is (P : jp_T) (t n : Nat) : isn (jp_sg (addn P t n)) t n := by
  unfold addn
  by_cases c : n < 10
  · rw [if_pos c]
    exact Or.inl ⟨c, pk_us⟩
  · rw [if_neg c]
    exact Or.inr ⟨by omega, (pk_un (by omega)).trans pk_us, pk_us⟩
theorem isn_congr {T T' : Nat → Int32} {q n : Nat} (h : isn T q n) (e : ∀ j, j < q + nlen n → T' j = T j) : isn T' q n := by
  rcases h with ⟨a, b⟩ | ⟨a, b, c⟩
  · refine Or.inl ⟨a, (e q ?_).trans b⟩
    unfold nlen
    rw [if_pos a]
    omega
  · have l : nlen n = 2 := if_neg (by omega)
    exact Or.inr ⟨a, (e q (by omega)).trans b, (e (q + 1) (by omega)).trans c⟩
theorem dg_at {T : Nat → Int32} {t q d : Nat} (hq : q < t) (hd : d < 10) (h : T q = nI (48 + d)) : pr_dg T t q = some d := by
  unfold pr_dg
  have e : (T q).toInt = ((48 + d : Nat) : Int) := by rw [h, nI_toInt (by omega)]
  rw [if_pos ⟨hq, by omega, by omega⟩, e]
  congr 1
  omega
theorem num_at {T : Nat → Int32} {t hi q n : Nat} (h : isn T q n) (hn : n ≤ hi) (hh : n < 100) (hq : q + nlen n ≤ t) (hd : pr_dg T t (q + nlen n) = none) : pr_num T t 0 hi q = some (n, q + nlen n) := by
  unfold pr_num
  rcases h with ⟨a, b⟩ | ⟨a, b, c⟩
  · have l : nlen n = 1 := if_pos a
    rw [l] at hq hd ⊢
    rw [dg_at (by omega) a b]
    dsimp only
    rw [if_neg (by omega)]
    by_cases z : n = 0
    · rw [if_pos z, z]
    · rw [if_neg z, hd]
  · have l : nlen n = 2 := if_neg (by omega)
    rw [l] at hq hd ⊢
    rw [dg_at (d := n / 10) (by omega) (by omega) b]
    dsimp only
    rw [if_neg (by omega), if_neg (by omega), dg_at (d := n % 10) (by omega) (by omega) c]
    dsimp only
    rw [if_neg (by omega), show 10 * (n / 10) + n % 10 = n by omega]
/-- the text of a touch -/
def tcP (P : jp_T) (d p : Nat) (s : Bool) (n : Nat) : jp_T :=
  let P2 := addn (addc P 0 (if d = 0 then 102 else 98)) 1 p
  let P3 := addc P2 (1 + nlen p) 61
  if s then addn (addc P3 (2 + nlen p) 45) (3 + nlen p) n else addn P3 (2 + nlen p) n
def tcL (p : Nat) (s : Bool) (n : Nat) : Nat := (if s then 3 else 2) + nlen p + nlen n
theorem nlen_le (n : Nat) : 1 ≤ nlen n ∧ nlen n ≤ 2 := by
  unfold nlen
  split <;> omega
theorem dg_no {T : Nat → Int32} {t q : Nat} (h : t ≤ q ∨ ¬ (48 ≤ (T q).toInt ∧ (T q).toInt ≤ 57)) : pr_dg T t q = none := by
  unfold pr_dg
  rw [if_neg]
  rintro ⟨a, b⟩
  rcases h with h | h
  · omega
  · exact h b
theorem is_y {T : Nat → Int32} {t q : Nat} {c : Int32} (h : q < t) (e : T q = c) : pr_is T t q c = true := by
  unfold pr_is
  rw [decide_eq_true h, decide_eq_true e]
  rfl
theorem is_n {T : Nat → Int32} {t q : Nat} {c : Int32} (h : t ≤ q ∨ ¬ T q = c) : ¬ pr_is T t q c = true := by
  intro z
  have := pr_is_lt z
  rcases h with h | h
  · omega
  · exact h this.2
theorem is_nI {T : Nat → Int32} {t q a b : Nat} (e : T q = nI a) (h : a ≠ b) (ha : a < 1000) (hb : b < 1000) : ¬ pr_is T t q (nI b) = true := is_n (Or.inr (by rw [e, nI_eq (by omega) (by omega)]; exact h))
theorem isn_ne {T : Nat → Int32} {t q n b : Nat} (h : isn T q n) (hn : n < 100) (hb : b < 48) : ¬ pr_is T t q (nI b) = true := by
  rcases h with ⟨a, e⟩ | ⟨a, e, -⟩
  · exact is_nI e (by omega) (by omega) (by omega)
  · exact is_nI e (by omega) (by omega) (by omega)
theorem tc_deed (P : jp_T) {d p : Nat} (hd : d < 2) (hp : p < 12) (s : Bool) {n : Nat} (hn : n < 100) : jp_ln (tcP P d p s n) = nI (tcL p s n) ∧ tcL p s n ≤ 7 ∧ pr_deed (jp_sg (tcP P d p s n)) (tcL p s n) 0 = (tcL p s n, some (0, d, p, if s then -nI n else nI n)) := by
  have lp := nlen_le p
  have ln := nlen_le n
  have hln : jp_ln (tcP P d p s n) = nI (tcL p s n) := by
    unfold tcP tcL
    cases s
    · exact (addn_ln _ _ _).trans (by congr 1)
    · exact (addn_ln _ _ _).trans (by congr 1)
  have hT : ∃ T, jp_sg (tcP P d p s n) = T ∧ T 0 = nI (if d = 0 then 102 else 98) ∧ isn T 1 p ∧ T (1 + nlen p) = nI 61 ∧ (s = true → T (2 + nlen p) = nI 45 ∧ isn T (3 + nlen p) n) ∧ (s = false → isn T (2 + nlen p) n) := by
    refine ⟨_, rfl, ?_⟩
    unfold tcP
    cases s
    · have a1 : ∀ j, j < 2 + nlen p → jp_sg (addn (addc (addn (addc P 0 (if d = 0 then 102 else 98)) 1 p) (1 + nlen p) 61) (2 + nlen p) n) j = jp_sg (addc (addn (addc P 0 (if d = 0 then 102 else 98)) 1 p) (1 + nlen p) 61) j := fun j hj => addn_lo _ n hj
      have a2 : ∀ j, j < 1 + nlen p → jp_sg (addc (addn (addc P 0 (if d = 0 then 102 else 98)) 1 p) (1 + nlen p) 61) j = jp_sg (addn (addc P 0 (if d = 0 then 102 else 98)) 1 p) j := fun j hj => pk_un (by omega)
      refine ⟨?_, isn_congr (addn_is _ 1 p) (fun j hj => (a1 j (by omega)).trans (a2 j hj)), (a1 _ (by omega)).trans pk_us, fun z => (by cases z), fun _ => addn_is _ _ n⟩
      exact (a1 0 (by omega)).trans ((a2 0 (by omega)).trans ((addn_lo _ p (by omega)).trans (addc_at _ _ _)))
    · have a1 : ∀ j, j < 3 + nlen p → jp_sg (addn (addc (addc (addn (addc P 0 (if d = 0 then 102 else 98)) 1 p) (1 + nlen p) 61) (2 + nlen p) 45) (3 + nlen p) n) j = jp_sg (addc (addc (addn (addc P 0 (if d = 0 then 102 else 98)) 1 p) (1 + nlen p) 61) (2 + nlen p) 45) j := fun j hj => addn_lo _ n hj
      have a3 : ∀ j, j < 2 + nlen p → jp_sg (addc (addc (addn (addc P 0 (if d = 0 then 102 else 98)) 1 p) (1 + nlen p) 61) (2 + nlen p) 45) j = jp_sg (addc (addn (addc P 0 (if d = 0 then 102 else 98)) 1 p) (1 + nlen p) 61) j := fun j hj => pk_un (by omega)
      have a2 : ∀ j, j < 1 + nlen p → jp_sg (addc (addn (addc P 0 (if d = 0 then 102 else 98)) 1 p) (1 + nlen p) 61) j = jp_sg (addn (addc P 0 (if d = 0 then 102 else 98)) 1 p) j := fun j hj => pk_un (by omega)
      refine ⟨?_, isn_congr (addn_is _ 1 p) (fun j hj => (a1 j (by omega)).trans ((a3 j (by omega)).trans (a2 j hj))), (a1 _ (by omega)).trans ((a3 _ (by omega)).trans pk_us), fun _ => ⟨(a1 _ (by omega)).trans pk_us, addn_is _ _ n⟩, fun z => (by cases z)⟩
      exact (a1 0 (by omega)).trans ((a3 0 (by omega)).trans ((a2 0 (by omega)).trans ((addn_lo _ p (by omega)).trans (addc_at _ _ _))))
  have hL : tcL p s n ≤ 7 ∧ (s = true → tcL p s n = 3 + nlen p + nlen n) ∧ (s = false → tcL p s n = 2 + nlen p + nlen n) := by
    unfold tcL
    cases s
    · exact ⟨by show 2 + nlen p + nlen n ≤ 7; omega, fun z => (by cases z), fun _ => rfl⟩
    · exact ⟨by show 3 + nlen p + nlen n ≤ 7; omega, fun _ => rfl, fun z => (by cases z)⟩
  refine ⟨hln, hL.1, ?_⟩
  obtain ⟨T, eT, t0, t1, t2, t3, t4⟩ := hT
  obtain ⟨hL7, hLt, hLf⟩ := hL
  rw [eT]
  have hgt : 2 + nlen p + nlen n ≤ tcL p s n := by
    cases s
    · rw [hLf rfl]; exact Nat.le_refl _
    · rw [hLt rfl]; omega
  have e61 : (T (1 + nlen p)).toInt = 61 := by rw [t2]; exact nI_toInt (by omega)
  have n1 : pr_num T (tcL p s n) 0 11 1 = some (p, 1 + nlen p) := num_at t1 (by omega) (by omega) (by omega) (dg_no (Or.inr (by omega)))
  have touch : pr_touch T (tcL p s n) 1 d = (tcL p s n, some (0, d, p, if s then -nI n else nI n)) := by
    unfold pr_touch
    rw [n1]
    dsimp only
    have y61 : pr_is T (tcL p s n) (1 + nlen p) 61 = true := is_y (by omega) t2
    rw [if_pos y61]
    cases s
    · have u := t4 rfl
      have k : ¬ pr_is T (tcL p false n) (2 + nlen p) 45 = true := isn_ne (b := 45) u (by omega) (by omega)
      have L := hLf rfl
      rw [show 1 + nlen p + 1 = 2 + nlen p by omega, if_neg k, num_at u (by omega) hn (by omega) (dg_no (Or.inl (by omega)))]
      dsimp only
      rw [if_neg k, L]
      rfl
    · obtain ⟨u0, u⟩ := t3 rfl
      have L := hLt rfl
      have k : pr_is T (tcL p true n) (2 + nlen p) 45 = true := is_y (by omega) u0
      rw [show 1 + nlen p + 1 = 2 + nlen p by omega, if_pos k, show 1 + nlen p + 2 = 3 + nlen p by omega, num_at u (by omega) hn (by omega) (dg_no (Or.inl (by omega)))]
      dsimp only
      rw [if_pos k, L]
      rfl
  unfold pr_deed
  rcases (show d = 0 ∨ d = 1 by omega) with e | e <;> subst e
  · have t0 : T 0 = nI 102 := t0
    have y : pr_is T (tcL p s n) 0 102 = true := is_y (by omega) t0
    have n1 : ¬ pr_is T (tcL p s n) 0 120 = true := is_nI (b := 120) t0 (by omega) (by omega) (by omega)
    have n2 : ¬ pr_is T (tcL p s n) 0 46 = true := is_nI (b := 46) t0 (by omega) (by omega) (by omega)
    rw [if_neg n1, if_neg n2, if_pos y]
    exact touch
  · have t0 : T 0 = nI 98 := t0
    have y : pr_is T (tcL p s n) 0 98 = true := is_y (by omega) t0
    have n1 : ¬ pr_is T (tcL p s n) 0 120 = true := is_nI (b := 120) t0 (by omega) (by omega) (by omega)
    have n2 : ¬ pr_is T (tcL p s n) 0 46 = true := is_nI (b := 46) t0 (by omega) (by omega) (by omega)
    have n3 : ¬ pr_is T (tcL p s n) 0 102 = true := is_nI (b := 102) t0 (by omega) (by omega) (by omega)
    rw [if_neg n1, if_neg n2, if_neg n3, if_pos y]
    exact touch
theorem deed_end (T : Nat → Int32) (t : Nat) : pr_deed T t t = (t, none) := by
  have k : ∀ c, ¬ pr_is T t t c = true := fun c => is_n (Or.inl (Nat.le_refl _))
  unfold pr_deed
  rw [if_neg (k _), if_neg (k _), if_neg (k _), if_neg (k _)]
/-- the text is read, and done -/
theorem tc_run (P : jp_T) {d p : Nat} (hd : d < 2) (hp : p < 12) (s : Bool) {n : Nat} (hn : n < 100) (N : jm_T) (Q : jd_T) : (lc_ff (tcP P d p s n) 61 (jd_uat Q 0)).1 = -1000006 ∧ (lc_rl (tcP P d p s n) 60 N (sX0_start (lc_ff (tcP P d p s n) 61 (jd_uat Q 0)).2)).1 = sX2_putCharge N (nI d) (nI p) (if s then -nI n else nI n) := by
  obtain ⟨h1, h2, h3⟩ := tc_deed P hd hp s hn
  generalize tcP P d p s n = P5 at h1 h3 ⊢
  generalize tcL p s n = t at h1 h2 h3 ⊢
  generalize (if s then -nI n else nI n) = z at h3 ⊢
  have eq : jd_uat Q 0 = jdq 0 (jd_de Q) (jd_di Q) (jd_pl Q) (jd_am Q) := rfl
  obtain ⟨f1, q2, a2, b2, c2, d2, f2⟩ := pp_ff h1 (by omega) 61 0 (jd_de Q) (jd_di Q) (jd_pl Q) (jd_am Q) (by omega) (by omega)
  have n59 : ¬ pr_is (jp_sg P5) t t 59 = true := is_n (Or.inl (Nat.le_refl _))
  rw [eq, f1, f2]
  refine ⟨?_, ?_⟩
  · rw [pr_fault, h3]
    dsimp only
    rw [if_neg n59, if_pos rfl]
  · have s2 : sX0_start (jdq q2 a2 b2 c2 d2) = jdq 0 a2 b2 c2 d2 := rfl
    obtain ⟨de, di, pl, am, e1, e2⟩ := pp_deed (P := P5) (q := 0) (a := a2) (b := b2) (c := c2) (d := d2) h1 (by omega) (by omega)
    rw [h3] at e1 e2
    obtain ⟨k0, k1, k2, -, -⟩ := e2
    obtain ⟨m1, m2, m3⟩ := k2 rfl
    have e1 : sX0_readDeed_0 (jdq 0 a2 b2 c2 d2) P5 = jdq t de di pl am := e1
    obtain ⟨r1, r2⟩ := rs_n (c := 59) (a := de) (b := di) (d := pl) (e := am) h1 (by omega) (Nat.le_refl _) (by decide) n59
    obtain ⟨de', di', pl', am', e3, e4⟩ := pp_deed (P := P5) (q := t) (a := de) (b := di) (c := pl) (d := am) h1 (by omega) (Nat.le_refl _)
    rw [deed_end] at e3 e4
    have e4 : rX0_readDeed (jdq t de di pl am) P5 = 0 := e4
    rw [s2, lc_rl, if_neg k0, e1, r2, lc_rl, if_pos e4, k1, m1, m2, m3]
    rfl
