/-! ===== a machine, and the reference's row of numbers ===== -/
def mrc (ch f : Nat → Int32) (T : Nat) : Prop := ∀ c, c < 24 → f (13 + c) = ch (sg T c)
def mrs (se f : Nat → Int32) : Prop := ∀ i, i < 5 → f i = se i
def mrn (T S : Nat) (lk po to : Int32) (f : Nat → Int32) : Prop := f 5 = nI T ∧ f 6 = nI S ∧ f 9 = lk ∧ f 10 = po ∧ f 11 = to
def mrj (ja tk lj f : Nat → Int32) : Prop := ∀ j, j < 2 → f (37 + j) = ja j ∧ f (39 + j) = tk j ∧ f (41 + j) = lj j
def mrl (lo : Nat → Int32) (S : Nat) (f : Nat → Int32) : Prop := f 12 = nI (min S 8) ∧ ∀ k, k < min S 8 → ∀ w, w < 3 → f (43 + 3 * (min S 8 - 1 - k) + w) = lo (3 * ((S - 1 - k) % 8) + w)
def rgs (se : Nat → Int32) : Prop := (0 ≤ (se 0).toInt ∧ (se 0).toInt ≤ 32) ∧ (0 ≤ (se 1).toInt ∧ (se 1).toInt ≤ 60) ∧ (1 ≤ (se 2).toInt ∧ (se 2).toInt ≤ 200) ∧ (0 ≤ (se 3).toInt ∧ (se 3).toInt ≤ 60) ∧ (100 ≤ (se 4).toInt ∧ (se 4).toInt ≤ 2000)
def rgc (ch : Nat → Int32) : Prop := ∀ i, i < 24 → -99 ≤ (ch i).toInt ∧ (ch i).toInt ≤ 99
def rgj (se ja : Nat → Int32) : Prop := ∀ j, j < 2 → -(se 4).toInt ≤ (ja j).toInt ∧ (ja j).toInt ≤ (se 4).toInt
def mrA (T S : Nat) (M : jm_T) (f : Nat → Int32) : Prop := (jm_tu M = nI T ∧ jm_sp M = nI S ∧ S ≤ T) ∧ mrs (jm_se M) f ∧ mrn T S (jm_lk M) (jm_po M) (jm_to M) f ∧ mrc (jm_ch M) f T ∧ mrj (jm_ja M) (jm_tk M) (jm_lj M) f ∧ mrl (jm_lo M) S f ∧ rgs (jm_se M) ∧ rgc (jm_ch M) ∧ rgj (jm_se M) (jm_ja M)
theorem mrc_off {ch f : Nat → Int32} {T k : Nat} {x : Int32} (h : mrc ch f T) (hk : k < 13 ∨ 37 ≤ k) : mrc ch (upd f k x) T := fun c hc => (pk_un (by omega)).trans (h c hc)
theorem mrs_off {se f : Nat → Int32} {k : Nat} {x : Int32} (h : mrs se f) (hk : 5 ≤ k) : mrs se (upd f k x) := fun i hi => (pk_un (by omega)).trans (h i hi)
theorem mrn_off {T S : Nat} {lk po to : Int32} {f : Nat → Int32} {k : Nat} {x : Int32} (h : mrn T S lk po to f) (h5 : k ≠ 5) (h6 : k ≠ 6) (h9 : k ≠ 9) (h10 : k ≠ 10) (h11 : k ≠ 11) : mrn T S lk po to (upd f k x) :=
  ⟨(pk_un h5.symm).trans h.1, (pk_un h6.symm).trans h.2.1, (pk_un h9.symm).trans h.2.2.1, (pk_un h10.symm).trans h.2.2.2.1, (pk_un h11.symm).trans h.2.2.2.2⟩
theorem mrj_off {ja tk lj f : Nat → Int32} {k : Nat} {x : Int32} (h : mrj ja tk lj f) (hk : k < 37 ∨ 43 ≤ k) : mrj ja tk lj (upd f k x) := fun j hj => ⟨(pk_un (by omega)).trans (h j hj).1, (pk_un (by omega)).trans (h j hj).2.1, (pk_un (by omega)).trans (h j hj).2.2⟩
theorem mrl_off {lo f : Nat → Int32} {S k : Nat} {x : Int32} (h : mrl lo S f) (h12 : k ≠ 12) (hk : k < 43) : mrl lo S (upd f k x) := ⟨(pk_un h12.symm).trans h.1, fun i hi w hw => (pk_un (by omega)).trans (h.2 i hi w hw)⟩
theorem mrc_upd {ch f : Nat → Int32} {T c : Nat} (h : mrc ch f T) (hc : c < 24) (x : Int32) : mrc (upd ch (sg T c) x) (upd f (13 + c) x) T := by
  intro c' hc'
  unfold upd
  by_cases e : c' = c
  · subst e
    rw [if_pos rfl, if_pos rfl]
  · rw [if_neg (by omega), if_neg (fun z => e (sg_inj hc' hc z))]
    exact h c' hc'
theorem rgc_upd {ch : Nat → Int32} {i : Nat} {x : Int32} (h : rgc ch) (hx : -99 ≤ x.toInt ∧ x.toInt ≤ 99) : rgc (upd ch i x) := by
  intro k hk
  unfold upd
  by_cases e : k = i
  · rw [if_pos e]; exact hx
  · rw [if_neg e]; exact h k hk
theorem mrA_ch {T S : Nat} {M : jm_T} {f : Nat → Int32} (h : mrA T S M f) {ch' f' : Nat → Int32} (hc : mrc ch' f' T) (hr : rgc ch') (hf : ∀ j, j < 13 ∨ 37 ≤ j → f' j = f j) : mrA T S (jm_uch M ch') f' := by
  obtain ⟨h1, h2, h3, h4, h5, h6, h7, h8, h9⟩ := h
  refine ⟨h1, fun i hi => (hf i (by omega)).trans (h2 i hi), ⟨(hf 5 (by omega)).trans h3.1, (hf 6 (by omega)).trans h3.2.1, (hf 9 (by omega)).trans h3.2.2.1, (hf 10 (by omega)).trans h3.2.2.2.1, (hf 11 (by omega)).trans h3.2.2.2.2⟩, hc, fun j hj => ⟨(hf _ (by omega)).trans (h5 j hj).1, (hf _ (by omega)).trans (h5 j hj).2.1, (hf _ (by omega)).trans (h5 j hj).2.2⟩, ⟨(hf 12 (by omega)).trans h6.1, fun k hk w hw => (hf _ (by omega)).trans (h6.2 k hk w hw)⟩, h7, hr, h9⟩
/-! ===== least and greatest ===== -/
theorem mx_T (x y : Int32) : (if x < y then y else x).toInt = max x.toInt y.toInt := by
  by_cases c : x < y
  · rw [if_pos c]
    rw [Int32.lt_iff_toInt_lt] at c
    omega
  · rw [if_neg c]
    rw [Int32.lt_iff_toInt_lt] at c
    omega
theorem mn_T (x y : Int32) : (if y < x then y else x).toInt = min x.toInt y.toInt := by
  by_cases c : y < x
  · rw [if_pos c]
    rw [Int32.lt_iff_toInt_lt] at c
    omega
  · rw [if_neg c]
    rw [Int32.lt_iff_toInt_lt] at c
    omega
theorem lim_T (v lo hi : Int32) : (rX4_limited v lo hi).toInt = max lo.toInt (min hi.toInt v.toInt) := by
  show (if lo < (if v < hi then v else hi) then (if v < hi then v else hi) else lo).toInt = _
  rw [mx_T, mn_T]
theorem cut_T {v lo hi : Int32} (h : lo.toInt ≤ hi.toInt) : (rX5_cut v lo hi).toInt = max lo.toInt (min hi.toInt v.toInt) := by
  unfold rX5_cut
  by_cases c : lo ≤ v
  · rw [if_pos c]
    rw [Int32.le_iff_toInt_le] at c
    by_cases c2 : v ≤ hi
    · rw [if_pos c2]
      rw [Int32.le_iff_toInt_le] at c2
      omega
    · rw [if_neg c2]
      rw [Int32.le_iff_toInt_le] at c2
      omega
  · rw [if_neg c]
    rw [Int32.le_iff_toInt_le] at c
    omega
/-! ===== two sectors are joined ===== -/
def jnA (a b w : Int32) : Int32 := rX4_limited (w - a) (if -99 - a < b - 99 then b - 99 else -99 - a) (if b + 99 < 99 - a then b + 99 else 99 - a)
def jnB (a b w : Int32) : Int32 := rX5_cut (rX5_cut (w - a) (-99 - a) (99 - a)) (b - 99) (b + 99)
theorem jn_T {a b : Int32} (w : Int32) (ha : -99 ≤ a.toInt ∧ a.toInt ≤ 99) (hb : -99 ≤ b.toInt ∧ b.toInt ≤ 99) : jnA a b w = jnB a b w ∧ (-99 ≤ (a + jnA a b w).toInt ∧ (a + jnA a b w).toInt ≤ 99) ∧ (-99 ≤ (b - jnA a b w).toInt ∧ (b - jnA a b w).toInt ≤ 99) := by
  have n99 : (-99 : Int32).toInt = -99 := by decide
  have p99 : (99 : Int32).toInt = 99 := by decide
  have e1 : (-99 - a).toInt = -99 - a.toInt := by rw [jk_subT (by omega) (by omega), n99]
  have e2 : (b - 99).toInt = b.toInt - 99 := by rw [jk_subT (by omega) (by omega), p99]
  have e3 : (b + 99).toInt = b.toInt + 99 := by rw [jk_addT (by omega) (by omega), p99]
  have e4 : (99 - a).toInt = 99 - a.toInt := by rw [jk_subT (by omega) (by omega), p99]
  have hA : (jnA a b w).toInt = max (max (-99 - a.toInt) (b.toInt - 99)) (min (min (99 - a.toInt) (b.toInt + 99)) (w - a).toInt) := by
    unfold jnA
    rw [lim_T, mx_T, mn_T, e1, e2, e3, e4]
  have hB : (jnB a b w).toInt = max (b.toInt - 99) (min (b.toInt + 99) (max (-99 - a.toInt) (min (99 - a.toInt) (w - a).toInt))) := by
    unfold jnB
    rw [cut_T (by omega), cut_T (by omega), e1, e2, e3, e4]
  refine ⟨Int32.toInt_inj.mp (by rw [hA, hB]; omega), ?_, ?_⟩
  · rw [jk_addT (by omega) (by omega), hA]
    omega
  · rw [jk_subT (by omega) (by omega), hA]
    omega
theorem st_join {T S : Nat} {M : jm_T} {f : Nat → Int32} (h : mrA T S M f) {cp cq : Nat} (hp : cp < 24) (hq : cq < 24) (hne : cp ≠ cq) {w w' : Int32} (hw : w = w') :
    mrA T S (jm_uch M (upd (upd (jm_ch M) (sg T cp) (jm_ch M (sg T cp) + jnA (jm_ch M (sg T cp)) (jm_ch M (sg T cq)) w)) (sg T cq) (jm_ch M (sg T cq) - jnA (jm_ch M (sg T cp)) (jm_ch M (sg T cq)) w))) (upd (upd f (13 + cp) (f (13 + cp) + jnB (f (13 + cp)) (f (13 + cq)) w')) (13 + cq) (f (13 + cq) - jnB (f (13 + cp)) (f (13 + cq)) w')) := by
  have hc := h.2.2.2.1
  have hr := h.2.2.2.2.2.2.2.1
  obtain ⟨g1, g2, g3⟩ := jn_T w (hr _ (sg_lt T cp)) (hr _ (sg_lt T cq))
  subst hw
  rw [hc cp hp, hc cq hq, ← g1]
  exact mrA_ch h (mrc_upd (mrc_upd hc hp _) hq _) (rgc_upd (rgc_upd hr g2) g3) (fun j hj => by rw [pk_un (by omega), pk_un (by omega)])
/-! ===== a comb takes a charge ===== -/
def tkM (M : jm_T) (i j : Nat) : jm_T := jm_utk (jm_uja (jm_uch M (upd (jm_ch M) i (jm_ch M i - rX4_limited (jm_ch M i) (-(jm_se M 4) - jm_ja M j) (jm_se M 4 - jm_ja M j)))) (upd (jm_ja M) j (jm_ja M j + rX4_limited (jm_ch M i) (-(jm_se M 4) - jm_ja M j) (jm_se M 4 - jm_ja M j)))) (upd (jm_tk M) j (jm_tk M j + rX4_limited (jm_ch M i) (-(jm_se M 4) - jm_ja M j) (jm_se M 4 - jm_ja M j)))
def tkF (f : Nat → Int32) (c j : Nat) : Nat → Int32 := upd (upd (upd f (13 + c) (f (13 + c) - rX5_cut (f (13 + c)) (-(f 4) - f (37 + j)) (f 4 - f (37 + j)))) (37 + j) (f (37 + j) + rX5_cut (f (13 + c)) (-(f 4) - f (37 + j)) (f 4 - f (37 + j)))) (39 + j) (f (39 + j) + rX5_cut (f (13 + c)) (-(f 4) - f (37 + j)) (f 4 - f (37 + j)))
theorem tk_T {v hh jr : Int32} (hv : -99 ≤ v.toInt ∧ v.toInt ≤ 99) (hh1 : 100 ≤ hh.toInt ∧ hh.toInt ≤ 2000) (hj : -hh.toInt ≤ jr.toInt ∧ jr.toInt ≤ hh.toInt) : rX4_limited v (-hh - jr) (hh - jr) = rX5_cut v (-hh - jr) (hh - jr) ∧ (-99 ≤ (v - rX4_limited v (-hh - jr) (hh - jr)).toInt ∧ (v - rX4_limited v (-hh - jr) (hh - jr)).toInt ≤ 99) ∧ (-hh.toInt ≤ (jr + rX4_limited v (-hh - jr) (hh - jr)).toInt ∧ (jr + rX4_limited v (-hh - jr) (hh - jr)).toInt ≤ hh.toInt) := by
  have e0 : (-hh).toInt = -hh.toInt := jk_negT (by omega)
  have e1 : (-hh - jr).toInt = -hh.toInt - jr.toInt := by rw [jk_subT (by omega) (by omega), e0]
  have e2 : (hh - jr).toInt = hh.toInt - jr.toInt := jk_subT (by omega) (by omega)
  have hA : (rX4_limited v (-hh - jr) (hh - jr)).toInt = max (-hh.toInt - jr.toInt) (min (hh.toInt - jr.toInt) v.toInt) := by rw [lim_T, e1, e2]
  have hB : (rX5_cut v (-hh - jr) (hh - jr)).toInt = max (-hh.toInt - jr.toInt) (min (hh.toInt - jr.toInt) v.toInt) := by rw [cut_T (by omega), e1, e2]
  refine ⟨Int32.toInt_inj.mp (by rw [hA, hB]), ?_, ?_⟩
  · rw [jk_subT (by omega) (by omega), hA]
    omega
  · rw [jk_addT (by omega) (by omega), hA]
    omega
theorem st_take {T S : Nat} {M : jm_T} {f : Nat → Int32} (h : mrA T S M f) {c j : Nat} (hc : c < 24) (hj : j < 2) : mrA T S (tkM M (sg T c) j) (tkF f c j) := by
  obtain ⟨h1, h2, h3, h4, h5, h6, h7, h8, h9⟩ := h
  obtain ⟨g1, g2, g3⟩ := tk_T (h8 _ (sg_lt T c)) h7.2.2.2.2 (h9 j hj)
  unfold tkF tkM
  rw [h4 c hc, h2 4 (by omega), (h5 j hj).1, (h5 j hj).2.1, ← g1]
  generalize rX4_limited (jm_ch M (sg T c)) (-(jm_se M 4) - jm_ja M j) (jm_se M 4 - jm_ja M j) = x at g2 g3 ⊢
  refine ⟨h1, mrs_off (mrs_off (mrs_off h2 (by omega)) (by omega)) (by omega), mrn_off (mrn_off (mrn_off h3 (by omega) (by omega) (by omega) (by omega) (by omega)) (by omega) (by omega) (by omega) (by omega) (by omega)) (by omega) (by omega) (by omega) (by omega) (by omega), mrc_off (mrc_off (mrc_upd h4 hc _) (by omega)) (by omega), ?_, mrl_off (mrl_off (mrl_off h6 (by omega) (by omega)) (by omega) (by omega)) (by omega) (by omega), h7, rgc_upd h8 g2, ?_⟩
  · intro i hi
    show upd (upd (upd f (13 + c) _) (37 + j) _) (39 + j) _ (37 + i) = upd (jm_ja M) j _ i ∧ upd (upd (upd f (13 + c) _) (37 + j) _) (39 + j) _ (39 + i) = upd (jm_tk M) j _ i ∧ upd (upd (upd f (13 + c) _) (37 + j) _) (39 + j) _ (41 + i) = jm_lj M i
    unfold upd
    refine ⟨?_, ?_, ?_⟩
    · rw [if_neg (by omega)]
      by_cases e : i = j
      · rw [if_pos (by omega), if_pos e]
      · rw [if_neg (by omega), if_neg (by omega), if_neg e]
        exact (h5 i hi).1
    · by_cases e : i = j
      · rw [if_pos (by omega), if_pos e]
      · rw [if_neg (by omega), if_neg (by omega), if_neg (by omega), if_neg e]
        exact (h5 i hi).2.1
    · rw [if_neg (by omega), if_neg (by omega), if_neg (by omega)]
      exact (h5 i hi).2.2
  · intro i hi
    show -(jm_se M 4).toInt ≤ (upd (jm_ja M) j _ i).toInt ∧ (upd (jm_ja M) j _ i).toInt ≤ (jm_se M 4).toInt
    unfold upd
    by_cases e : i = j
    · rw [if_pos e]; exact g3
    · rw [if_neg e]; exact h9 i hi
/-! ===== leaks ===== -/
theorem lk_Z {X D : Int} (hD : 0 ≤ D ∧ D ≤ 60) : (0 ≤ X → 0 ≤ X * D ∧ X * D ≤ 60 * X) ∧ (X ≤ 0 → X * D ≤ 0 ∧ 60 * X ≤ X * D) := by
  constructor
  · intro hX
    refine ⟨Int.mul_nonneg hX hD.1, ?_⟩
    have := Int.mul_le_mul_of_nonneg_left hD.2 hX
    omega
  · intro hX
    have h1 := Int.mul_nonneg (show 0 ≤ -X by omega) hD.1
    have h2 := Int.mul_le_mul_of_nonneg_left hD.2 (show 0 ≤ -X by omega)
    rw [Int.neg_mul] at h1 h2
    omega
theorem lk_T {x d : Int32} (K : Int32) (B : Int) (hB : B ≤ 2000) (hx : -B ≤ x.toInt ∧ x.toInt ≤ B) (hd : 0 ≤ d.toInt ∧ d.toInt ≤ 60) (hK : K.toInt = 100 ∨ K.toInt = 200) : -B ≤ (x - x * d / K).toInt ∧ (x - x * d / K).toInt ≤ B := by
  obtain ⟨z1, z2⟩ := lk_Z (X := x.toInt) hd
  have hm : (x * d).toInt = x.toInt * d.toInt := by
    refine jk_mulT ?_ ?_
    · rcases Int.le_total 0 x.toInt with q | q
      · have := z1 q; omega
      · have := z2 q; omega
    · rcases Int.le_total 0 x.toInt with q | q
      · have := z1 q; omega
      · have := z2 q; omega
  have hq : (x * d / K).toInt = (x.toInt * d.toInt).tdiv K.toInt := by
    rw [Int32.toInt_div, hm]
    refine Int.bmod_eq_of_le ?_ ?_
    · rcases Int.le_total 0 x.toInt with q | q
      · have := z1 q
        have := Int.tdiv_nonneg this.1 (show 0 ≤ K.toInt by omega)
        omega
      · have h9 := z2 q
        have h8 : (x.toInt * d.toInt).tdiv K.toInt = -((-(x.toInt * d.toInt)).tdiv K.toInt) := by rw [Int.neg_tdiv, Int.neg_neg]
        have h7 : (-(x.toInt * d.toInt)).tdiv K.toInt = (-(x.toInt * d.toInt)) / K.toInt := Int.tdiv_eq_ediv_of_nonneg (by omega)
        rcases hK with e | e <;> rw [e] at h8 h7 ⊢ <;> omega
    · rcases Int.le_total 0 x.toInt with q | q
      · have h9 := z1 q
        have h7 : (x.toInt * d.toInt).tdiv K.toInt = (x.toInt * d.toInt) / K.toInt := Int.tdiv_eq_ediv_of_nonneg (by omega)
        rcases hK with e | e <;> rw [e] at h7 ⊢ <;> omega
      · have h9 := z2 q
        have h8 : (x.toInt * d.toInt).tdiv K.toInt = -((-(x.toInt * d.toInt)).tdiv K.toInt) := by rw [Int.neg_tdiv, Int.neg_neg]
        have h7 : (-(x.toInt * d.toInt)).tdiv K.toInt = (-(x.toInt * d.toInt)) / K.toInt := Int.tdiv_eq_ediv_of_nonneg (by omega)
        rcases hK with e | e <;> rw [e] at h8 h7 ⊢ <;> omega
  have hb : (0 ≤ x.toInt → 0 ≤ (x * d / K).toInt ∧ (x * d / K).toInt ≤ x.toInt) ∧ (x.toInt ≤ 0 → x.toInt ≤ (x * d / K).toInt ∧ (x * d / K).toInt ≤ 0) := by
    rw [hq]
    constructor
    · intro q
      have h9 := z1 q
      have h7 : (x.toInt * d.toInt).tdiv K.toInt = (x.toInt * d.toInt) / K.toInt := Int.tdiv_eq_ediv_of_nonneg (by omega)
      rcases hK with e | e <;> rw [e] at h7 ⊢ <;> omega
    · intro q
      have h9 := z2 q
      have h8 : (x.toInt * d.toInt).tdiv K.toInt = -((-(x.toInt * d.toInt)).tdiv K.toInt) := by rw [Int.neg_tdiv, Int.neg_neg]
      have h7 : (-(x.toInt * d.toInt)).tdiv K.toInt = (-(x.toInt * d.toInt)) / K.toInt := Int.tdiv_eq_ediv_of_nonneg (by omega)
      rcases hK with e | e <;> rw [e] at h8 h7 ⊢ <;> omega
  rcases Int.le_total 0 x.toInt with q | q
  · have := hb.1 q
    rw [jk_subT (by omega) (by omega)]
    omega
  · have := hb.2 q
    rw [jk_subT (by omega) (by omega)]
    omega
/-- the leaks of the sectors, closed -/
def lkv (d x : Int32) : Int32 := x - x * d / 100
def lkd (d x : Int32) : Int32 := x * d / 100
theorem lp_lk_eq (M : jm_T) : ∀ k, k ≤ 24 → lp_lk M k = jm_ulk (jm_uch M (fun i => if i < k then lkv (jm_se M 1) (jm_ch M i) else jm_ch M i)) (fo (fun a x => a + x) (jm_lk M) (fun i => lkd (jm_se M 1) (jm_ch M i)) k)
  | 0, _ => rfl
  | k + 1, hk => by
    have ih := lp_lk_eq M k (by omega)
    have hs : jm_se (lp_lk M k) 1 = jm_se M 1 := by rw [ih]; rfl
    have hc : jm_ch (lp_lk M k) (nI k).toNatClampNeg = jm_ch M k := by
      rw [ih, jk_cl (by omega)]
      show (if k < k then _ else _) = _
      rw [if_neg (by omega)]
    have hl : jm_lk (lp_lk M k) = fo (fun a x => a + x) (jm_lk M) (fun i => lkd (jm_se M 1) (jm_ch M i)) k := by rw [ih]; rfl
    have hch : upd (jm_ch (lp_lk M k)) (nI k).toNatClampNeg (lkv (jm_se M 1) (jm_ch M k)) = (fun i => if i < k + 1 then lkv (jm_se M 1) (jm_ch M i) else jm_ch M i) := by
      rw [ih, jk_cl (by omega)]
      funext i
      show (if i = k then lkv (jm_se M 1) (jm_ch M k) else if i < k then lkv (jm_se M 1) (jm_ch M i) else jm_ch M i) = _
      by_cases e : i = k
      · subst e
        rw [if_pos rfl, if_pos (by omega)]
      · rw [if_neg e]
        by_cases e2 : i < k
        · rw [if_pos e2, if_pos (by omega)]
        · rw [if_neg e2, if_neg (by omega)]
    have hrest : ∀ (c : Nat → Int32) (x : Int32), jm_ulk (jm_uch (lp_lk M k) c) x = jm_ulk (jm_uch M c) x := by
      intro c x
      rw [ih]
      rfl
    show jm_ulk (jm_uch (lp_lk M k) (upd (jm_ch (lp_lk M k)) (nI k).toNatClampNeg (jm_ch (lp_lk M k) (nI k).toNatClampNeg - jm_ch (lp_lk M k) (nI k).toNatClampNeg * jm_se (lp_lk M k) 1 / 100))) (jm_lk (lp_lk M k) + jm_ch (lp_lk M k) (nI k).toNatClampNeg * jm_se (lp_lk M k) 1 / 100) = _
    rw [hrest, hs, hc, hl]
    have hch' : upd (jm_ch (lp_lk M k)) (nI k).toNatClampNeg (jm_ch M k - jm_ch M k * jm_se M 1 / 100) = _ := hch
    rw [hch']
    rfl
theorem lx_lk_eq (f : Nat → Int32) : ∀ k, k ≤ 24 → lx_lk f k = (fun j => if j = 9 then fo (fun a x => a + x) (f 9) (fun c => lkd (f 1) (f (13 + c))) k else if 13 ≤ j ∧ j < 13 + k then lkv (f 1) (f j) else f j)
  | 0, _ => by
    funext j
    show f j = _
    by_cases e : j = 9
    · rw [if_pos e, e]
      rfl
    · rw [if_neg e, if_neg (by omega)]
  | k + 1, hk => by
    have ih := lx_lk_eq f k (by omega)
    have hs : lx_lk f k 1 = f 1 := by rw [ih]; rfl
    have hc : lx_lk f k (13 + k) = f (13 + k) := by
      rw [ih]
      show (if 13 + k = 9 then _ else if 13 ≤ 13 + k ∧ 13 + k < 13 + k then _ else f (13 + k)) = _
      rw [if_neg (by omega), if_neg (by omega)]
    have h9 : lx_lk f k 9 = fo (fun a x => a + x) (f 9) (fun c => lkd (f 1) (f (13 + c))) k := by rw [ih]; rfl
    show upd (upd (lx_lk f k) (nI (13 + k)).toNatClampNeg (lx_lk f k (nI (13 + k)).toNatClampNeg - lx_lk f k (nI (13 + k)).toNatClampNeg * lx_lk f k 1 / 100)) 9 ((upd (lx_lk f k) (nI (13 + k)).toNatClampNeg (lx_lk f k (nI (13 + k)).toNatClampNeg - lx_lk f k (nI (13 + k)).toNatClampNeg * lx_lk f k 1 / 100)) 9 + lx_lk f k (nI (13 + k)).toNatClampNeg * lx_lk f k 1 / 100) = _
    rw [jk_cl (by omega), pk_un (show 9 ≠ 13 + k by omega), hs, hc, h9]
    funext j
    unfold upd
    by_cases e : j = 9
    · rw [if_pos e, if_pos e]
      rfl
    · rw [if_neg e, if_neg e]
      by_cases e2 : j = 13 + k
      · rw [if_pos e2, if_pos (by omega), e2]
        rfl
      · rw [if_neg e2, ih]
        show (if j = 9 then _ else if 13 ≤ j ∧ j < 13 + k then lkv (f 1) (f j) else f j) = _
        rw [if_neg e]
        by_cases e3 : 13 ≤ j ∧ j < 13 + k
        · rw [if_pos e3, if_pos (by omega)]
        · rw [if_neg e3, if_neg (by omega)]
theorem lk_sum {ch f : Nat → Int32} {T : Nat} (h : mrc ch f T) (z d : Int32) : fo (fun a x => a + x) z (fun c => lkd d (f (13 + c))) 24 = fo (fun a x => a + x) z (fun i => lkd d (ch i)) 24 := by
  rw [fo_congr _ z (w := fun c => lkd d (ch (sg T c))) 24 (fun c hc => by rw [h c hc])]
  exact fo_perm (fun a x y => addrc a x y) z (fun i => lkd d (ch i)) (sg T) 24 (pm24 T)
theorem st_leak {T S : Nat} {M : jm_T} {f : Nat → Int32} (h : mrA T S M f) : mrA T S (lp_lk M 24) (lx_lk f 24) := by
  obtain ⟨h1, h2, h3, h4, h5, h6, h7, h8, h9⟩ := h
  rw [lp_lk_eq M 24 (Nat.le_refl _), lx_lk_eq f 24 (Nat.le_refl _), lk_sum h4, h2 1 (by omega), h3.2.2.1]
  have off : ∀ j, j ≠ 9 → (j < 13 ∨ 37 ≤ j) → (fun j => if j = 9 then fo (fun a x => a + x) (jm_lk M) (fun i => lkd (jm_se M 1) (jm_ch M i)) 24 else if 13 ≤ j ∧ j < 13 + 24 then lkv (jm_se M 1) (f j) else f j) j = f j := by
    intro j q1 q2
    show (if j = 9 then _ else if 13 ≤ j ∧ j < 13 + 24 then _ else f j) = f j
    rw [if_neg q1, if_neg (by omega)]
  refine ⟨h1, fun i hi => (off i (by omega) (by omega)).trans (h2 i hi), ⟨(off 5 (by omega) (by omega)).trans h3.1, (off 6 (by omega) (by omega)).trans h3.2.1, rfl, (off 10 (by omega) (by omega)).trans h3.2.2.2.1, (off 11 (by omega) (by omega)).trans h3.2.2.2.2⟩, ?_, fun j hj => ⟨(off _ (by omega) (by omega)).trans (h5 j hj).1, (off _ (by omega) (by omega)).trans (h5 j hj).2.1, (off _ (by omega) (by omega)).trans (h5 j hj).2.2⟩, ⟨(off 12 (by omega) (by omega)).trans h6.1, fun k hk w hw => (off _ (by omega) (by omega)).trans (h6.2 k hk w hw)⟩, h7, ?_, h9⟩
  · intro c hc
    show (if 13 + c = 9 then _ else if 13 ≤ 13 + c ∧ 13 + c < 13 + 24 then lkv (jm_se M 1) (f (13 + c)) else _) = (if sg T c < 24 then lkv (jm_se M 1) (jm_ch M (sg T c)) else _)
    rw [if_neg (by omega), if_pos (by omega), if_pos (sg_lt T c), h4 c hc]
  · intro i hi
    show -99 ≤ (if i < 24 then lkv (jm_se M 1) (jm_ch M i) else jm_ch M i).toInt ∧ (if i < 24 then lkv (jm_se M 1) (jm_ch M i) else jm_ch M i).toInt ≤ 99
    rw [if_pos hi]
    exact lk_T 100 99 (by omega) (h8 i hi) h7.2.1 (Or.inl (by decide))
def lkM (M : jm_T) (j : Nat) : jm_T := jm_ulk (jm_ulj (jm_uja M (upd (jm_ja M) j (jm_ja M j - jm_ja M j * jm_se M 1 / 200))) (upd (jm_lj M) j (jm_lj M j + jm_ja M j * jm_se M 1 / 200))) (jm_lk M + jm_ja M j * jm_se M 1 / 200)
def lkF (f : Nat → Int32) (j : Nat) : Nat → Int32 := upd (upd (upd f (37 + j) (f (37 + j) - f (37 + j) * f 1 / 200)) (41 + j) (f (41 + j) + f (37 + j) * f 1 / 200)) 9 (f 9 + f (37 + j) * f 1 / 200)
theorem st_leakj {T S : Nat} {M : jm_T} {f : Nat → Int32} (h : mrA T S M f) {j : Nat} (hj : j < 2) : mrA T S (lkM M j) (lkF f j) := by
  obtain ⟨h1, h2, h3, h4, h5, h6, h7, h8, h9⟩ := h
  have hh := h7.2.2.2.2
  have g := lk_T 200 (jm_se M 4).toInt hh.2 (h9 j hj) h7.2.1 (Or.inr (by decide))
  unfold lkF lkM
  rw [(h5 j hj).1, (h5 j hj).2.2, h2 1 (by omega), h3.2.2.1]
  generalize jm_ja M j * jm_se M 1 / 200 = x at g ⊢
  refine ⟨h1, mrs_off (mrs_off (mrs_off h2 (by omega)) (by omega)) (by omega), ⟨?_, ?_, rfl, ?_, ?_⟩, mrc_off (mrc_off (mrc_off h4 (by omega)) (by omega)) (by omega), ?_, mrl_off (mrl_off (mrl_off h6 (by omega) (by omega)) (by omega) (by omega)) (by omega) (by omega), h7, h8, ?_⟩
  · rw [pk_un (by omega), pk_un (by omega), pk_un (by omega)]; exact h3.1
  · rw [pk_un (by omega), pk_un (by omega), pk_un (by omega)]; exact h3.2.1
  · rw [pk_un (by omega), pk_un (by omega), pk_un (by omega)]; exact h3.2.2.2.1
  · rw [pk_un (by omega), pk_un (by omega), pk_un (by omega)]; exact h3.2.2.2.2
  · intro i hi
    show upd (upd (upd f (37 + j) _) (41 + j) _) 9 _ (37 + i) = upd (jm_ja M) j _ i ∧ upd (upd (upd f (37 + j) _) (41 + j) _) 9 _ (39 + i) = jm_tk M i ∧ upd (upd (upd f (37 + j) _) (41 + j) _) 9 _ (41 + i) = upd (jm_lj M) j _ i
    unfold upd
    refine ⟨?_, ?_, ?_⟩
    · rw [if_neg (by omega), if_neg (by omega)]
      by_cases e : i = j
      · rw [if_pos (by omega), if_pos e]
      · rw [if_neg (by omega), if_neg e]
        exact (h5 i hi).1
    · rw [if_neg (by omega), if_neg (by omega), if_neg (by omega)]
      exact (h5 i hi).2.1
    · rw [if_neg (by omega)]
      by_cases e : i = j
      · rw [if_pos (by omega), if_pos e]
      · rw [if_neg (by omega), if_neg (by omega), if_neg e]
        exact (h5 i hi).2.2
  · intro i hi
    show -(jm_se M 4).toInt ≤ (upd (jm_ja M) j _ i).toInt ∧ (upd (jm_ja M) j _ i).toInt ≤ (jm_se M 4).toInt
    unfold upd
    by_cases e : i = j
    · rw [if_pos e]; exact g
    · rw [if_neg e]; exact h9 i hi
/-! ===== a turn but its spark ===== -/
theorem st_turn {T S : Nat} {M : jm_T} {f : Nat → Int32} (h : mrA T S M f) : mrA (T + 1) S (jm_utu M (jm_tu M + 1)) (jx_al (sX5_discsTurn (jx_ual jx_0 (upd f 5 (f 5 + 1))))) := by
  obtain ⟨h1, h2, h3, h4, h5, h6, h7, h8, h9⟩ := h
  have e5 : f 5 + 1 = nI (T + 1) := by rw [h3.1, nI_1]
  have off : ∀ j, j ≠ 5 → (j < 13 ∨ 37 ≤ j) → jx_al (sX5_discsTurn (jx_ual jx_0 (upd f 5 (f 5 + 1)))) j = f j := by
    intro j q1 q2
    unfold sX5_discsTurn
    show upd (upd (upd (upd (upd (upd (upd (upd (upd (upd (upd (upd (upd (upd (upd (upd (upd (upd (upd (upd (upd (upd (upd (upd (upd f 5 _) 24 _) 23 _) 22 _) 21 _) 20 _) 19 _) 18 _) 17 _) 16 _) 15 _) 14 _) 13 _) 25 _) 26 _) 27 _) 28 _) 29 _) 30 _) 31 _) 32 _) 33 _) 34 _) 35 _) 36 _ j = f j
    repeat rw [pk_un (by omega)]
  refine ⟨⟨by show jm_tu M + 1 = _; rw [h1.1, nI_1], h1.2.1, by have := h1.2.2; omega⟩, fun i hi => (off i (by omega) (by omega)).trans (h2 i hi), ⟨e5, (off 6 (by omega) (by omega)).trans h3.2.1, (off 9 (by omega) (by omega)).trans h3.2.2.1, (off 10 (by omega) (by omega)).trans h3.2.2.2.1, (off 11 (by omega) (by omega)).trans h3.2.2.2.2⟩, ?_, fun j hj => ⟨(off _ (by omega) (by omega)).trans (h5 j hj).1, (off _ (by omega) (by omega)).trans (h5 j hj).2.1, (off _ (by omega) (by omega)).trans (h5 j hj).2.2⟩, ⟨(off 12 (by omega) (by omega)).trans h6.1, fun k hk w hw => (off _ (by omega) (by omega)).trans (h6.2 k hk w hw)⟩, h7, h8, h9⟩
  intro c hc
  have hk : ∀ c', c' < 24 → sg T c' = sg (T + 1) c → f (13 + c') = jm_ch M (sg (T + 1) c) := fun c' q1 q2 => by rw [h4 c' q1, q2]
  show jx_al (sX5_discsTurn (jx_ual jx_0 (upd f 5 (f 5 + 1)))) (13 + c) = jm_ch M (sg (T + 1) c)
  have hs : ∀ c c', c < 12 → (c' + 1 = c ∨ (c = 0 ∧ c' = 11)) → sg T c' = sg (T + 1) c := by
    intro c c' q1 q2
    unfold sg
    rw [if_pos (by omega), if_pos q1]
    omega
  have hs2 : ∀ c c', 12 ≤ c → c < 24 → (c' = c + 1 ∧ c < 23 ∨ (c = 23 ∧ c' = 12)) → sg T c' = sg (T + 1) c := by
    intro c c' q1 q2 q3
    unfold sg
    rw [if_neg (by omega), if_neg (by omega)]
    omega
  rcases Nat.lt_or_ge c 12 with q | q
  · have hv : jx_al (sX5_discsTurn (jx_ual jx_0 (upd f 5 (f 5 + 1)))) (13 + c) = f (13 + (if c = 0 then 11 else c - 1)) := by
      match c, q with
      | 0, _ => rfl
      | 1, _ => rfl
      | 2, _ => rfl
      | 3, _ => rfl
      | 4, _ => rfl
      | 5, _ => rfl
      | 6, _ => rfl
      | 7, _ => rfl
      | 8, _ => rfl
      | 9, _ => rfl
      | 10, _ => rfl
      | 11, _ => rfl
      | n + 12, q => exact absurd q (by omega)
    rw [hv]
    by_cases e : c = 0
    · rw [if_pos e]
      exact hk 11 (by omega) (hs c 11 q (Or.inr ⟨e, rfl⟩))
    · rw [if_neg e]
      exact hk (c - 1) (by omega) (hs c (c - 1) q (Or.inl (by omega)))
  · have hv : jx_al (sX5_discsTurn (jx_ual jx_0 (upd f 5 (f 5 + 1)))) (13 + c) = f (13 + (if c = 23 then 12 else c + 1)) := by
      obtain ⟨i, rfl⟩ : ∃ i, c = i + 12 := ⟨c - 12, by omega⟩
      match i, hc with
      | 0, _ => rfl
      | 1, _ => rfl
      | 2, _ => rfl
      | 3, _ => rfl
      | 4, _ => rfl
      | 5, _ => rfl
      | 6, _ => rfl
      | 7, _ => rfl
      | 8, _ => rfl
      | 9, _ => rfl
      | 10, _ => rfl
      | 11, _ => rfl
      | n + 12, q => exact absurd q (by omega)
    rw [hv]
    by_cases e : c = 23
    · rw [if_pos e]
      exact hk 12 (by omega) (hs2 c 12 q hc (Or.inr ⟨e, rfl⟩))
    · rw [if_neg e]
      exact hk (c + 1) (by omega) (hs2 c (c + 1) q hc (Or.inl ⟨rfl, by omega⟩))
