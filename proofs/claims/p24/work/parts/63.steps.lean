/-! ===== signs reversed ===== -/
def ngf (f : Nat → Int32) : Nat → Int32 := fun i => -f i
def nglo (f : Nat → Int32) : Nat → Int32 := fun i => if i % 3 = 0 then f i else -f i
def ng (M : jm_T) : jm_T := (jm_se M, ngf (jm_ch M), ngf (jm_ja M), ngf (jm_tk M), ngf (jm_lj M), nglo (jm_lo M), jm_tu M, jm_sp M, jm_rv M, -jm_ls M, -jm_lk M, -jm_po M, -jm_to M)
theorem nq_add (a b : Int32) : -a + -b = -(a + b) := by grind
theorem nq_sub (a b : Int32) : -a - -b = -(a - b) := by grind
theorem nq_mul (a b : Int32) : -a * b = -(a * b) := by grind
theorem nq_nn (a : Int32) : - -a = a := by grind
theorem nq_inj {a b : Int32} (h : -a = -b) : a = b := by grind
theorem nq_T {a : Int32} (h : -2147483647 ≤ a.toInt) : (-a).toInt = -a.toInt := jk_negT h
theorem tdB {x k B : Int} (hk : 0 < k) (h1 : -B ≤ x) (h2 : x ≤ B) : -B ≤ x.tdiv k ∧ x.tdiv k ≤ B := by
  rcases Int.le_total 0 x with q | q
  · rw [Int.tdiv_eq_ediv_of_nonneg q]
    have a1 := Int.ediv_nonneg q (show 0 ≤ k by omega)
    have a2 := Int.ediv_le_self k q
    omega
  · have e : x.tdiv k = -((-x).tdiv k) := by rw [Int.neg_tdiv, Int.neg_neg]
    rw [e, Int.tdiv_eq_ediv_of_nonneg (by omega)]
    have a1 := Int.ediv_nonneg (show 0 ≤ -x by omega) (show 0 ≤ k by omega)
    have a2 := Int.ediv_le_self k (show 0 ≤ -x by omega)
    omega
theorem dvT {a b : Int32} {B : Int} (hB : B ≤ 2147483647) (h1 : -B ≤ a.toInt) (h2 : a.toInt ≤ B) (hb : 0 < b.toInt) : (a / b).toInt = a.toInt.tdiv b.toInt ∧ -B ≤ (a / b).toInt ∧ (a / b).toInt ≤ B := by
  have t := tdB hb h1 h2
  have e : (a / b).toInt = a.toInt.tdiv b.toInt := by
    rw [Int32.toInt_div]
    exact Int.bmod_eq_of_le (by omega) (by omega)
  rw [e]
  exact ⟨rfl, t⟩
theorem nq_div {a b : Int32} (h : -2147483647 ≤ a.toInt) (hb : 0 < b.toInt) : -a / b = -(a / b) := by
  have u := a.toInt_lt
  obtain ⟨e1, e2, e3⟩ := dvT (a := a) (b := b) (B := 2147483647) (by omega) (by omega) (by omega) hb
  have en := nq_T h
  obtain ⟨f1, -, -⟩ := dvT (a := -a) (b := b) (B := 2147483647) (by omega) (by omega) (by omega) hb
  refine Int32.toInt_inj.mp ?_
  rw [f1, en, nq_T (by omega), e1, Int.neg_tdiv]
theorem ngf_upd (f : Nat → Int32) (i : Nat) (x : Int32) : ngf (upd f i x) = upd (ngf f) i (-x) := by
  funext j
  unfold ngf upd
  by_cases c : j = i
  · rw [if_pos c, if_pos c]
  · rw [if_neg c, if_neg c]
theorem nglo_upd (f : Nat → Int32) (k : Nat) (t a b : Int32) : nglo (upd (upd (upd f (3 * k) t) (3 * k + 1) a) (3 * k + 2) b) = upd (upd (upd (nglo f) (3 * k) t) (3 * k + 1) (-a)) (3 * k + 2) (-b) := by
  funext j
  unfold nglo upd
  by_cases c2 : j = 3 * k + 2
  · rw [if_pos c2, if_pos c2, if_neg (by omega)]
  · rw [if_neg c2, if_neg c2]
    by_cases c1 : j = 3 * k + 1
    · rw [if_pos c1, if_pos c1, if_neg (by omega)]
    · rw [if_neg c1, if_neg c1]
      by_cases c0 : j = 3 * k
      · rw [if_pos c0, if_pos c0, if_pos (by omega)]
      · rw [if_neg c0, if_neg c0]
/-! ===== what a step of a turn keeps ===== -/
def bdd (M : jm_T) : Prop := rgs (jm_se M) ∧ rgc (jm_ch M) ∧ rgj (jm_se M) (jm_ja M)
def sm (f : Nat → Int32) : Int32 := fo (fun a x => a + x) 0 f 24
def tot (M : jm_T) : Int32 := sm (jm_ch M) + (jm_ja M 0 + jm_ja M 1) + jm_lk M
def jbl (M : jm_T) : Int32 := jm_ja M 0 + jm_ja M 1 - (jm_tk M 0 + jm_tk M 1) + (jm_lj M 0 + jm_lj M 1)
def stp (M M' : jm_T) : Prop := bdd M' ∧ jm_se M' = jm_se M ∧ jm_po M' = jm_po M ∧ jm_to M' = jm_to M ∧ jm_tu M' = jm_tu M ∧ tot M' = tot M ∧ jbl M' = jbl M
theorem stp.tr {A B C : jm_T} (h : stp A B) (k : stp B C) : stp A C :=
  ⟨k.1, k.2.1.trans h.2.1, k.2.2.1.trans h.2.2.1, k.2.2.2.1.trans h.2.2.2.1, k.2.2.2.2.1.trans h.2.2.2.2.1, k.2.2.2.2.2.1.trans h.2.2.2.2.2.1, k.2.2.2.2.2.2.trans h.2.2.2.2.2.2⟩
theorem fo_off (z : Int32) (f : Nat → Int32) {i : Nat} (y : Int32) {n : Nat} (h : n ≤ i) : fo (fun a x => a + x) z (upd f i y) n = fo (fun a x => a + x) z f n := fo_congr _ z n (fun k hk => pk_un (by omega))
theorem fo_upd (z : Int32) (f : Nat → Int32) {i : Nat} (y : Int32) : ∀ n, i < n → fo (fun a x => a + x) z (upd f i y) n = fo (fun a x => a + x) z f n + (y - f i)
  | 0, h => absurd h (by omega)
  | n + 1, h => by
    show fo (fun a x => a + x) z (upd f i y) n + upd f i y n = (fo (fun a x => a + x) z f n + f n) + (y - f i)
    by_cases c : i = n
    · subst c
      rw [fo_off z f y (Nat.le_refl _), pk_us]
      grind
    · rw [fo_upd z f y n (by omega), pk_un (by omega)]
      grind
theorem sm_upd (f : Nat → Int32) {i : Nat} (y : Int32) (h : i < 24) : sm (upd f i y) = sm f + (y - f i) := fo_upd 0 f y 24 h
theorem tw_upd (f : Nat → Int32) {j : Nat} (y : Int32) (h : j < 2) : upd f j y 0 + upd f j y 1 = f 0 + f 1 + (y - f j) := by
  rcases (show j = 0 ∨ j = 1 by omega) with e | e <;> subst e
  · rw [pk_us, pk_un (by omega)]
    grind
  · rw [pk_us, pk_un (by omega)]
    grind
/-! two sectors are joined -/
def wA (a b c d g : Int32) : Int32 := (a + b) / 2 + (d - c) * g / 32
def jnM (M : jm_T) (i j : Nat) (w : Int32) : jm_T := jm_uch M (upd (upd (jm_ch M) i (jm_ch M i + jnA (jm_ch M i) (jm_ch M j) w)) j (jm_ch M j - jnA (jm_ch M i) (jm_ch M j) w))
def r99 (x : Int32) : Prop := -99 ≤ x.toInt ∧ x.toInt ≤ 99
theorem c32 : (32 : Int32).toInt = 32 := by decide
theorem c2i : (2 : Int32).toInt = 2 := by decide
theorem mulB {x g : Int} {B G : Int} (hx : -B ≤ x ∧ x ≤ B) (hg : 0 ≤ g ∧ g ≤ G) (hB : 0 ≤ B) : -(B * G) ≤ x * g ∧ x * g ≤ B * G := by
  have a1 : x * g ≤ B * g := Int.mul_le_mul_of_nonneg_right hx.2 hg.1
  have a2 : (-B) * g ≤ x * g := Int.mul_le_mul_of_nonneg_right hx.1 hg.1
  have a3 : B * g ≤ B * G := Int.mul_le_mul_of_nonneg_left hg.2 hB
  rw [Int.neg_mul] at a2
  omega
theorem wA_T {a b c d g : Int32} (ha : r99 a) (hb : r99 b) (hc : r99 c) (hd : r99 d) (hg : 0 ≤ g.toInt ∧ g.toInt ≤ 32) : -7000 ≤ (wA a b c d g).toInt ∧ (wA a b c d g).toInt ≤ 7000 ∧ wA (-a) (-b) (-c) (-d) g = -wA a b c d g := by
  unfold r99 at ha hb hc hd
  have e1 : (a + b).toInt = a.toInt + b.toInt := jk_addT (by omega) (by omega)
  have e2 : (d - c).toInt = d.toInt - c.toInt := jk_subT (by omega) (by omega)
  have m := mulB (x := (d - c).toInt) (g := g.toInt) (B := 198) (G := 32) (by omega) hg (by omega)
  have e3 : ((d - c) * g).toInt = (d - c).toInt * g.toInt := jk_mulT (by omega) (by omega)
  obtain ⟨f1, f2, f3⟩ := dvT (a := a + b) (b := 2) (B := 198) (by omega) (by omega) (by omega) (by decide)
  obtain ⟨g1, g2, g3⟩ := dvT (a := (d - c) * g) (b := 32) (B := 6336) (by omega) (by omega) (by omega) (by decide)
  have e4 : (wA a b c d g).toInt = ((a + b) / 2).toInt + ((d - c) * g / 32).toInt := jk_addT (by omega) (by omega)
  refine ⟨by omega, by omega, ?_⟩
  unfold wA
  rw [nq_add, nq_sub, nq_mul, nq_div (by omega) (by decide), nq_div (by omega) (by decide), nq_add]
theorem jnA_T {a b : Int32} (w : Int32) (ha : r99 a) (hb : r99 b) : r99 (a + jnA a b w) ∧ r99 (b - jnA a b w) ∧ (-7000 ≤ w.toInt → w.toInt ≤ 7000 → jnA (-a) (-b) (-w) = -jnA a b w) := by
  unfold r99 at ha hb
  have n99 : (-99 : Int32).toInt = -99 := by decide
  have p99 : (99 : Int32).toInt = 99 := by decide
  have key : ∀ {a b : Int32} (w : Int32), -99 ≤ a.toInt ∧ a.toInt ≤ 99 → -99 ≤ b.toInt ∧ b.toInt ≤ 99 → (jnA a b w).toInt = max (max (-99 - a.toInt) (b.toInt - 99)) (min (min (99 - a.toInt) (b.toInt + 99)) (w - a).toInt) := by
    intro a b w ha hb
    have e1 : (-99 - a).toInt = -99 - a.toInt := by rw [jk_subT (by omega) (by omega), n99]
    have e2 : (b - 99).toInt = b.toInt - 99 := by rw [jk_subT (by omega) (by omega), p99]
    have e3 : (b + 99).toInt = b.toInt + 99 := by rw [jk_addT (by omega) (by omega), p99]
    have e4 : (99 - a).toInt = 99 - a.toInt := by rw [jk_subT (by omega) (by omega), p99]
    unfold jnA
    rw [lim_T, mx_T, mn_T, e1, e2, e3, e4]
  have hA := key w ha hb
  refine ⟨?_, ?_, fun h1 h2 => ?_⟩
  · unfold r99
    rw [jk_addT (by omega) (by omega), hA]
    omega
  · unfold r99
    rw [jk_subT (by omega) (by omega), hA]
    omega
  · have ea : (-a).toInt = -a.toInt := nq_T (by omega)
    have eb : (-b).toInt = -b.toInt := nq_T (by omega)
    have ew : (w - a).toInt = w.toInt - a.toInt := jk_subT (by omega) (by omega)
    have ew2 : (-w - -a).toInt = -(w.toInt - a.toInt) := by rw [nq_sub, nq_T (by omega), ew]
    have hB := key (a := -a) (b := -b) (-w) (by omega) (by omega)
    refine Int32.toInt_inj.mp ?_
    rw [hB, nq_T (a := jnA a b w) (by omega), hA, ea, eb, ew, ew2]
    omega
theorem jnM_stp {M : jm_T} (h : bdd M) {i j : Nat} (hi : i < 24) (hj : j < 24) (hne : i ≠ j) (w : Int32) : stp M (jnM M i j w) := by
  obtain ⟨h1, h2, h3⟩ := h
  obtain ⟨g1, g2, -⟩ := jnA_T w (h2 i hi) (h2 j hj)
  refine ⟨⟨h1, rgc_upd (rgc_upd h2 g1) g2, h3⟩, rfl, rfl, rfl, rfl, ?_, rfl⟩
  show sm (upd (upd (jm_ch M) i _) j _) + (jm_ja M 0 + jm_ja M 1) + jm_lk M = sm (jm_ch M) + (jm_ja M 0 + jm_ja M 1) + jm_lk M
  rw [sm_upd _ _ hj, sm_upd _ _ hi, pk_un (fun z => hne z.symm)]
  grind
theorem jnM_ng {M : jm_T} (h : bdd M) {i j : Nat} (hi : i < 24) (hj : j < 24) {w : Int32} (hw : -7000 ≤ w.toInt ∧ w.toInt ≤ 7000) : jnM (ng M) i j (-w) = ng (jnM M i j w) := by
  have g := (jnA_T w (h.2.1 i hi) (h.2.1 j hj)).2.2 hw.1 hw.2
  have e1 : ng (jnM M i j w) = jm_uch (ng M) (ngf (upd (upd (jm_ch M) i (jm_ch M i + jnA (jm_ch M i) (jm_ch M j) w)) j (jm_ch M j - jnA (jm_ch M i) (jm_ch M j) w))) := rfl
  have e2 : jnM (ng M) i j (-w) = jm_uch (ng M) (upd (upd (ngf (jm_ch M)) i (-jm_ch M i + jnA (-jm_ch M i) (-jm_ch M j) (-w))) j (-jm_ch M j - jnA (-jm_ch M i) (-jm_ch M j) (-w))) := rfl
  rw [e1, e2, g, ngf_upd, ngf_upd, nq_add, nq_sub]
/-! a comb takes a charge -/
theorem tk_T {v hh jr : Int32} (hv : r99 v) (hh1 : 100 ≤ hh.toInt ∧ hh.toInt ≤ 2000) (hj : -hh.toInt ≤ jr.toInt ∧ jr.toInt ≤ hh.toInt) : r99 (v - rX4_limited v (-hh - jr) (hh - jr)) ∧ (-hh.toInt ≤ (jr + rX4_limited v (-hh - jr) (hh - jr)).toInt ∧ (jr + rX4_limited v (-hh - jr) (hh - jr)).toInt ≤ hh.toInt) ∧ rX4_limited (-v) (-hh - -jr) (hh - -jr) = -rX4_limited v (-hh - jr) (hh - jr) := by
  unfold r99 at hv
  have key : ∀ {v jr : Int32}, -99 ≤ v.toInt ∧ v.toInt ≤ 99 → -hh.toInt ≤ jr.toInt ∧ jr.toInt ≤ hh.toInt → (rX4_limited v (-hh - jr) (hh - jr)).toInt = max (-hh.toInt - jr.toInt) (min (hh.toInt - jr.toInt) v.toInt) := by
    intro v jr hv hj
    have e0 : (-hh).toInt = -hh.toInt := jk_negT (by omega)
    have e1 : (-hh - jr).toInt = -hh.toInt - jr.toInt := by rw [jk_subT (by omega) (by omega), e0]
    have e2 : (hh - jr).toInt = hh.toInt - jr.toInt := jk_subT (by omega) (by omega)
    rw [lim_T, e1, e2]
  have hA := key hv hj
  refine ⟨?_, ?_, ?_⟩
  · unfold r99
    rw [jk_subT (by omega) (by omega), hA]
    omega
  · rw [jk_addT (by omega) (by omega), hA]
    omega
  · have ev : (-v).toInt = -v.toInt := nq_T (by omega)
    have ej : (-jr).toInt = -jr.toInt := nq_T (by omega)
    have hB := key (v := -v) (jr := -jr) (by omega) (by omega)
    refine Int32.toInt_inj.mp ?_
    rw [hB, nq_T (a := rX4_limited v (-hh - jr) (hh - jr)) (by omega), hA, ev, ej]
    omega
theorem rgj_upd {se ja : Nat → Int32} {j : Nat} {x : Int32} (h : rgj se ja) (hx : -(se 4).toInt ≤ x.toInt ∧ x.toInt ≤ (se 4).toInt) : rgj se (upd ja j x) := by
  intro k hk
  unfold upd
  by_cases e : k = j
  · rw [if_pos e]; exact hx
  · rw [if_neg e]; exact h k hk
theorem tkM_stp {M : jm_T} (h : bdd M) {i j : Nat} (hi : i < 24) (hj : j < 2) : stp M (tkM M i j) := by
  obtain ⟨h1, h2, h3⟩ := h
  obtain ⟨g1, g2, -⟩ := tk_T (h2 i hi) h1.2.2.2.2 (h3 j hj)
  unfold tkM
  generalize rX4_limited (jm_ch M i) (-(jm_se M 4) - jm_ja M j) (jm_se M 4 - jm_ja M j) = x at g1 g2 ⊢
  refine ⟨⟨h1, rgc_upd h2 g1, rgj_upd h3 g2⟩, rfl, rfl, rfl, rfl, ?_, ?_⟩
  · show sm (upd (jm_ch M) i (jm_ch M i - x)) + (upd (jm_ja M) j (jm_ja M j + x) 0 + upd (jm_ja M) j (jm_ja M j + x) 1) + jm_lk M = sm (jm_ch M) + (jm_ja M 0 + jm_ja M 1) + jm_lk M
    rw [sm_upd _ _ hi, tw_upd _ _ hj]
    grind
  · show upd (jm_ja M) j (jm_ja M j + x) 0 + upd (jm_ja M) j (jm_ja M j + x) 1 - (upd (jm_tk M) j (jm_tk M j + x) 0 + upd (jm_tk M) j (jm_tk M j + x) 1) + (jm_lj M 0 + jm_lj M 1) = jm_ja M 0 + jm_ja M 1 - (jm_tk M 0 + jm_tk M 1) + (jm_lj M 0 + jm_lj M 1)
    rw [tw_upd _ _ hj, tw_upd _ _ hj]
    grind
theorem tkM_ng {M : jm_T} (h : bdd M) {i j : Nat} (hi : i < 24) (hj : j < 2) : tkM (ng M) i j = ng (tkM M i j) := by
  obtain ⟨-, -, g⟩ := tk_T (h.2.1 i hi) h.1.2.2.2.2 (h.2.2 j hj)
  have e2 : tkM (ng M) i j = jm_utk (jm_uja (jm_uch (ng M) (upd (ngf (jm_ch M)) i (-jm_ch M i - rX4_limited (-jm_ch M i) (-(jm_se M 4) - -jm_ja M j) (jm_se M 4 - -jm_ja M j)))) (upd (ngf (jm_ja M)) j (-jm_ja M j + rX4_limited (-jm_ch M i) (-(jm_se M 4) - -jm_ja M j) (jm_se M 4 - -jm_ja M j)))) (upd (ngf (jm_tk M)) j (-jm_tk M j + rX4_limited (-jm_ch M i) (-(jm_se M 4) - -jm_ja M j) (jm_se M 4 - -jm_ja M j))) := rfl
  rw [e2, g]
  unfold tkM
  generalize rX4_limited (jm_ch M i) (-(jm_se M 4) - jm_ja M j) (jm_se M 4 - jm_ja M j) = x
  have e1 : ng (jm_utk (jm_uja (jm_uch M (upd (jm_ch M) i (jm_ch M i - x))) (upd (jm_ja M) j (jm_ja M j + x))) (upd (jm_tk M) j (jm_tk M j + x))) = jm_utk (jm_uja (jm_uch (ng M) (ngf (upd (jm_ch M) i (jm_ch M i - x)))) (ngf (upd (jm_ja M) j (jm_ja M j + x)))) (ngf (upd (jm_tk M) j (jm_tk M j + x))) := rfl
  rw [e1, ngf_upd, ngf_upd, ngf_upd, nq_add, nq_sub, nq_add]
/-! leaks -/
theorem lkd_ng {x d : Int32} (hx : -2000 ≤ x.toInt ∧ x.toInt ≤ 2000) (hd : 0 ≤ d.toInt ∧ d.toInt ≤ 60) (K : Int32) (hK : 0 < K.toInt) : -x * d / K = -(x * d / K) := by
  have m := mulB (x := x.toInt) (g := d.toInt) (B := 2000) (G := 60) (by omega) hd (by omega)
  have e3 : (x * d).toInt = x.toInt * d.toInt := jk_mulT (by omega) (by omega)
  rw [nq_mul, nq_div (by omega) hK]
theorem fo_sub (f g : Nat → Int32) : ∀ n, fo (fun a x => a + x) 0 (fun i => f i - g i) n = fo (fun a x => a + x) 0 f n - fo (fun a x => a + x) 0 g n
  | 0 => by
    show (0 : Int32) = 0 - 0
    decide
  | n + 1 => by
    show fo (fun a x => a + x) 0 (fun i => f i - g i) n + (f n - g n) = (fo (fun a x => a + x) 0 f n + f n) - (fo (fun a x => a + x) 0 g n + g n)
    rw [fo_sub f g n]
    grind
theorem fo_neg (f : Nat → Int32) : ∀ n, fo (fun a x => a + x) 0 (fun i => -f i) n = -fo (fun a x => a + x) 0 f n
  | 0 => by
    show (0 : Int32) = -0
    decide
  | n + 1 => by
    show fo (fun a x => a + x) 0 (fun i => -f i) n + -f n = -(fo (fun a x => a + x) 0 f n + f n)
    rw [fo_neg f n, nq_add]
theorem fo_z (z : Int32) (f : Nat → Int32) (n : Nat) : fo (fun a x => a + x) z f n = z + fo (fun a x => a + x) 0 f n := by
  have := fo_add z 0 f n
  rw [Int32.add_zero] at this
  exact this
theorem lk_stp {M : jm_T} (h : bdd M) : stp M (lp_lk M 24) := by
  obtain ⟨h1, h2, h3⟩ := h
  rw [lp_lk_eq M 24 (Nat.le_refl _)]
  refine ⟨⟨h1, fun i hi => ?_, h3⟩, rfl, rfl, rfl, rfl, ?_, rfl⟩
  · show -99 ≤ (if i < 24 then lkv (jm_se M 1) (jm_ch M i) else jm_ch M i).toInt ∧ (if i < 24 then lkv (jm_se M 1) (jm_ch M i) else jm_ch M i).toInt ≤ 99
    rw [if_pos hi]
    exact lk_T 100 99 (by omega) (h2 i hi) h1.2.1 (Or.inl (by decide))
  · show sm (fun i => if i < 24 then lkv (jm_se M 1) (jm_ch M i) else jm_ch M i) + (jm_ja M 0 + jm_ja M 1) + fo (fun a x => a + x) (jm_lk M) (fun i => lkd (jm_se M 1) (jm_ch M i)) 24 = sm (jm_ch M) + (jm_ja M 0 + jm_ja M 1) + jm_lk M
    have e : sm (fun i => if i < 24 then lkv (jm_se M 1) (jm_ch M i) else jm_ch M i) = sm (jm_ch M) - fo (fun a x => a + x) 0 (fun i => lkd (jm_se M 1) (jm_ch M i)) 24 := by
      have e1 := fo_sub (jm_ch M) (fun i => lkd (jm_se M 1) (jm_ch M i)) 24
      refine Eq.trans (fo_congr _ 0 24 (fun k hk => ?_)) e1
      show (if k < 24 then lkv (jm_se M 1) (jm_ch M k) else jm_ch M k) = _
      rw [if_pos hk]
      rfl
    rw [e, fo_z (jm_lk M)]
    grind
theorem lk_ng {M : jm_T} (h : bdd M) : lp_lk (ng M) 24 = ng (lp_lk M 24) := by
  obtain ⟨h1, h2, h3⟩ := h
  have p100 : 0 < (100 : Int32).toInt := by decide
  have pt : ∀ i, i < 24 → lkd (jm_se M 1) (-jm_ch M i) = -lkd (jm_se M 1) (jm_ch M i) := fun i hi => lkd_ng (by have := h2 i hi; omega) h1.2.1 100 p100
  rw [lp_lk_eq M 24 (Nat.le_refl _), lp_lk_eq (ng M) 24 (Nat.le_refl _)]
  have e1 : ng (jm_ulk (jm_uch M (fun i => if i < 24 then lkv (jm_se M 1) (jm_ch M i) else jm_ch M i)) (fo (fun a x => a + x) (jm_lk M) (fun i => lkd (jm_se M 1) (jm_ch M i)) 24)) = jm_ulk (jm_uch (ng M) (ngf (fun i => if i < 24 then lkv (jm_se M 1) (jm_ch M i) else jm_ch M i))) (-fo (fun a x => a + x) (jm_lk M) (fun i => lkd (jm_se M 1) (jm_ch M i)) 24) := rfl
  have e2 : (fun i => if i < 24 then lkv (jm_se (ng M) 1) (jm_ch (ng M) i) else jm_ch (ng M) i) = ngf (fun i => if i < 24 then lkv (jm_se M 1) (jm_ch M i) else jm_ch M i) := by
    funext i
    show (if i < 24 then -jm_ch M i - lkd (jm_se M 1) (-jm_ch M i) else -jm_ch M i) = -(if i < 24 then jm_ch M i - lkd (jm_se M 1) (jm_ch M i) else jm_ch M i)
    by_cases c : i < 24
    · rw [if_pos c, if_pos c, pt i c, nq_sub]
    · rw [if_neg c, if_neg c]
  have e3 : fo (fun a x => a + x) (jm_lk (ng M)) (fun i => lkd (jm_se (ng M) 1) (jm_ch (ng M) i)) 24 = -fo (fun a x => a + x) (jm_lk M) (fun i => lkd (jm_se M 1) (jm_ch M i)) 24 := by
    have e4 : fo (fun a x => a + x) (jm_lk (ng M)) (fun i => lkd (jm_se (ng M) 1) (jm_ch (ng M) i)) 24 = fo (fun a x => a + x) (-jm_lk M) (fun i => -lkd (jm_se M 1) (jm_ch M i)) 24 := fo_congr _ _ 24 (fun k hk => pt k hk)
    rw [e4, fo_z (-jm_lk M), fo_neg, fo_z (jm_lk M), nq_add]
  rw [e1, e2, e3]
theorem lkM_stp {M : jm_T} (h : bdd M) {j : Nat} (hj : j < 2) : stp M (lkM M j) := by
  obtain ⟨h1, h2, h3⟩ := h
  have g := lk_T 200 (jm_se M 4).toInt h1.2.2.2.2.2 (h3 j hj) h1.2.1 (Or.inr (by decide))
  unfold lkM
  generalize jm_ja M j * jm_se M 1 / 200 = x at g ⊢
  refine ⟨⟨h1, h2, rgj_upd h3 g⟩, rfl, rfl, rfl, rfl, ?_, ?_⟩
  · show sm (jm_ch M) + (upd (jm_ja M) j (jm_ja M j - x) 0 + upd (jm_ja M) j (jm_ja M j - x) 1) + (jm_lk M + x) = sm (jm_ch M) + (jm_ja M 0 + jm_ja M 1) + jm_lk M
    rw [tw_upd _ _ hj]
    grind
  · show upd (jm_ja M) j (jm_ja M j - x) 0 + upd (jm_ja M) j (jm_ja M j - x) 1 - (jm_tk M 0 + jm_tk M 1) + (upd (jm_lj M) j (jm_lj M j + x) 0 + upd (jm_lj M) j (jm_lj M j + x) 1) = jm_ja M 0 + jm_ja M 1 - (jm_tk M 0 + jm_tk M 1) + (jm_lj M 0 + jm_lj M 1)
    rw [tw_upd _ _ hj, tw_upd _ _ hj]
    grind
theorem lkM_ng {M : jm_T} (h : bdd M) {j : Nat} (hj : j < 2) : lkM (ng M) j = ng (lkM M j) := by
  obtain ⟨h1, h2, h3⟩ := h
  have p200 : 0 < (200 : Int32).toInt := by decide
  have g : -jm_ja M j * jm_se M 1 / 200 = -(jm_ja M j * jm_se M 1 / 200) := lkd_ng (by have := h3 j hj; have := h1.2.2.2.2.2; omega) h1.2.1 200 p200
  have e2 : lkM (ng M) j = jm_ulk (jm_ulj (jm_uja (ng M) (upd (ngf (jm_ja M)) j (-jm_ja M j - -jm_ja M j * jm_se M 1 / 200))) (upd (ngf (jm_lj M)) j (-jm_lj M j + -jm_ja M j * jm_se M 1 / 200))) (-jm_lk M + -jm_ja M j * jm_se M 1 / 200) := rfl
  rw [e2, g]
  unfold lkM
  generalize jm_ja M j * jm_se M 1 / 200 = x
  have e1 : ng (jm_ulk (jm_ulj (jm_uja M (upd (jm_ja M) j (jm_ja M j - x))) (upd (jm_lj M) j (jm_lj M j + x))) (jm_lk M + x)) = jm_ulk (jm_ulj (jm_uja (ng M) (ngf (upd (jm_ja M) j (jm_ja M j - x)))) (ngf (upd (jm_lj M) j (jm_lj M j + x)))) (-(jm_lk M + x)) := rfl
  rw [e1, ngf_upd, ngf_upd, nq_add, nq_sub, nq_add]
