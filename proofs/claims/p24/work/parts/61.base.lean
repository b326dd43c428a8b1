/-! ===== sums, places, signs, bounds ===== -/
theorem jk_addT {x y : Int32} (h1 : -2147483648 ≤ x.toInt + y.toInt) (h2 : x.toInt + y.toInt < 2147483648) : (x + y).toInt = x.toInt + y.toInt := by
  rw [Int32.toInt_add]
  exact Int.bmod_eq_of_le (by omega) (by omega)
theorem jk_negT {x : Int32} (h1 : -2147483647 ≤ x.toInt) : (-x).toInt = -x.toInt := by
  have := x.toInt_lt
  rw [Int32.toInt_neg]
  exact Int.bmod_eq_of_le (by omega) (by omega)
def fo {α : Type} (op : α → Int32 → α) (z : α) (v : Nat → Int32) : Nat → α
  | 0 => z
  | k + 1 => op (fo op z v k) (v k)
theorem fo_congr {α : Type} (op : α → Int32 → α) (z : α) {v w : Nat → Int32} : ∀ n, (∀ k, k < n → v k = w k) → fo op z v n = fo op z w n
  | 0, _ => rfl
  | n + 1, h => by
    show op (fo op z v n) (v n) = op (fo op z w n) (w n)
    rw [fo_congr op z n (fun k hk => h k (by omega)), h n (by omega)]
theorem addrc (a x y : Int32) : a + x + y = a + y + x := by rw [Int32.add_assoc, Int32.add_comm x, ← Int32.add_assoc]
theorem fo_add (z z' : Int32) (v : Nat → Int32) : ∀ n, fo (fun a x => a + x) (z + z') v n = z + fo (fun a x => a + x) z' v n
  | 0 => rfl
  | n + 1 => by
    show fo (fun a x => a + x) (z + z') v n + v n = z + (fo (fun a x => a + x) z' v n + v n)
    rw [fo_add z z' v n, Int32.add_assoc]
def sg (T c : Nat) : Nat := if c < 12 then (c + 11 * T) % 12 else 12 + (c + T) % 12
theorem sg_lt (T c : Nat) : sg T c < 24 := by
  unfold sg
  split <;> omega
theorem sg_inj {T c c' : Nat} (h : c < 24) (h' : c' < 24) (e : sg T c = sg T c') : c = c' := by
  unfold sg at e
  split at e <;> split at e <;> omega
theorem ix0 {p T : Nat} (hp : p < 12) (hT : T < 1000000) : (rX2_indexOf 0 (nI p) (nI T)).toNatClampNeg = sg T p := by
  have a1 := jk_fm (nI p - nI T) 12 (by decide)
  have ep : (nI p).toInt = p := nI_toInt (by omega)
  have eT : (nI T).toInt = T := nI_toInt (by omega)
  rw [jk_12, jk_subT (by omega) (by omega), ep, eT] at a1
  have e : rX2_indexOf 0 (nI p) (nI T) = rJ9_floorMod_7cf53 (nI p - nI T) 12 := if_pos rfl
  rw [e]
  show (rJ9_floorMod_7cf53 (nI p - nI T) 12).toInt.toNat = sg T p
  rw [a1]
  unfold sg
  rw [if_pos hp]
  omega
theorem ix1 {p T : Nat} (hp : p < 12) (hT : T < 1000000) : (rX2_indexOf 1 (nI p) (nI T)).toNatClampNeg = sg T (12 + p) := by
  have a1 := jk_fm (nI p + nI T) 12 (by decide)
  have ep : (nI p).toInt = p := nI_toInt (by omega)
  have eT : (nI T).toInt = T := nI_toInt (by omega)
  rw [jk_12, jk_addT (by omega) (by omega), ep, eT] at a1
  have e : rX2_indexOf 1 (nI p) (nI T) = 12 + rJ9_floorMod_7cf53 (nI p + nI T) 12 := if_neg (by decide)
  rw [e]
  show (12 + rJ9_floorMod_7cf53 (nI p + nI T) 12).toInt.toNat = sg T (12 + p)
  have hb : (12 + rJ9_floorMod_7cf53 (nI p + nI T) 12).toInt = 12 + ((p : Int) + T) % 12 := by
    rw [jk_addT (by rw [jk_12, a1]; omega) (by rw [jk_12, a1]; omega), jk_12, a1]
  rw [hb]
  unfold sg
  rw [if_neg (by omega)]
  omega
theorem sig_eq (x : Int32) : rJ6_signum_0f7a4 x = if x < 0 then -1 else if x = 0 then 0 else 1 := by
  have h1 : (x >>> (31 &&& 31)).toInt = x.toInt >>> 31 := pk_shr x (31 &&& 31) 31 (by decide)
  have h2 : ((((-x) : Int32).toUInt32 >>> (((31 : Int32)).toUInt32 &&& Int32.toUInt32 31)).toInt32).toBitVec.toNat = (-x).toBitVec.toNat / 2 ^ 31 := pk_ushr (-x) 31 31 (by decide)
  have hx1 : -2147483648 ≤ x.toInt := x.le_toInt
  have hx2 : x.toInt < 2147483648 := x.toInt_lt
  unfold rJ6_signum_0f7a4
  dsimp only
  generalize (((-x) : Int32).toUInt32 >>> (((31 : Int32)).toUInt32 &&& Int32.toUInt32 31)).toInt32 = y at h2 ⊢
  generalize x >>> (31 &&& 31) = w at h1 ⊢
  rw [Int.shiftRight_eq_div_pow] at h1
  by_cases c : x < 0
  · rw [if_pos c]
    rw [Int32.lt_iff_toInt_lt, Int32.toInt_zero] at c
    have e : w = -1 := Int32.toInt_inj.mp (by rw [h1, show (-1 : Int32).toInt = -1 by decide]; omega)
    rw [e, Int32.neg_one_or]
  · rw [if_neg c]
    rw [Int32.lt_iff_toInt_lt, Int32.toInt_zero] at c
    have e : w = 0 := Int32.toInt_inj.mp (by rw [h1, Int32.toInt_zero]; omega)
    rw [e, Int32.zero_or]
    by_cases c2 : x = 0
    · rw [if_pos c2]
      subst c2
      have : y.toBitVec = 0 := BitVec.eq_of_toNat_eq (by rw [h2]; decide)
      exact Int32.toBitVec_inj.mp this
    · rw [if_neg c2]
      have c3 : x.toInt ≠ 0 := fun z => c2 (Int32.toInt_inj.mp z)
      have e2 : (-x).toInt = -x.toInt := jk_negT (by omega)
      have e3 : (-x).toInt = ((-x).toBitVec.toNat : Int).bmod (2 ^ 32) := BitVec.toInt_eq_toNat_bmod _
      have e4 : ((-x).toBitVec.toNat : Int) < 2 ^ 32 := by
        have := (-x).toBitVec.isLt
        omega
      have e5 : (-x).toBitVec.toNat / 2 ^ 31 = 1 := by
        rw [e2, Int.bmod_def] at e3
        split at e3 <;> omega
      have : y.toBitVec = 1 := BitVec.eq_of_toNat_eq (by rw [h2, e5]; rfl)
      exact Int32.toBitVec_inj.mp this
def mxo (a x : Int32) : Int32 := if a < x then x else a
def mno (a x : Int32) : Int32 := if x < a then x else a
theorem fo_split {α : Type} (op : α → Int32 → α) (z : α) (v : Nat → Int32) (a : Nat) : ∀ b, fo op z v (a + b) = fo op (fo op z v a) (fun i => v (a + i)) b
  | 0 => rfl
  | b + 1 => by
    show op (fo op z v (a + b)) (v (a + b)) = op (fo op (fo op z v a) (fun i => v (a + i)) b) (v (a + b))
    rw [fo_split op z v a b]
theorem fi_0 : rX2_firstIndexOf 0 = nI 0 := rfl
theorem fi_1 : rX2_firstIndexOf 1 = nI 12 := rfl
theorem lp_sum_fo (f : Nat → Int32) (b : Nat) (hb : b ≤ 12) : ∀ k, k ≤ 12 → lp_sum f (nI b) k = fo (fun a x => a + x) 0 (fun i => f (b + i)) k
  | 0, _ => rfl
  | k + 1, hk => by
    show lp_sum f (nI b) k + f (nI b + nI k).toNatClampNeg = fo (fun a x => a + x) 0 (fun i => f (b + i)) k + f (b + k)
    rw [lp_sum_fo f b hb k (by omega), nI_add, jk_cl (by omega)]
def rgs (se : Nat → Int32) : Prop := (0 ≤ (se 0).toInt ∧ (se 0).toInt ≤ 32) ∧ (0 ≤ (se 1).toInt ∧ (se 1).toInt ≤ 60) ∧ (1 ≤ (se 2).toInt ∧ (se 2).toInt ≤ 200) ∧ (0 ≤ (se 3).toInt ∧ (se 3).toInt ≤ 60) ∧ (100 ≤ (se 4).toInt ∧ (se 4).toInt ≤ 2000)
def rgc (ch : Nat → Int32) : Prop := ∀ i, i < 24 → -99 ≤ (ch i).toInt ∧ (ch i).toInt ≤ 99
def rgj (se ja : Nat → Int32) : Prop := ∀ j, j < 2 → -(se 4).toInt ≤ (ja j).toInt ∧ (ja j).toInt ≤ (se 4).toInt
theorem rgc_upd {ch : Nat → Int32} {i : Nat} {x : Int32} (h : rgc ch) (hx : -99 ≤ x.toInt ∧ x.toInt ≤ 99) : rgc (upd ch i x) := by
  intro k hk
  unfold upd
  by_cases e : k = i
  · rw [if_pos e]; exact hx
  · rw [if_neg e]; exact h k hk
theorem mx_T (x y : Int32) : (if x < y then y else x).toInt = max x.toInt y.toInt := by
  by_cases c : x < y
  · rw [if_pos c]
    rw [Int32.lt_iff_toInt_lt] at c
    omega
  · rw [if_neg c]
    rw [Int32.lt_iff_toInt_lt] at c
    omega
theorem mn_T (x y : Int32) : (if y < x then y else x).toInt = min x.toInt y.toInt := by
  by_cases c : y < x
  · rw [if_pos c]
    rw [Int32.lt_iff_toInt_lt] at c
    omega
  · rw [if_neg c]
    rw [Int32.lt_iff_toInt_lt] at c
    omega
theorem lim_T (v lo hi : Int32) : (rX4_limited v lo hi).toInt = max lo.toInt (min hi.toInt v.toInt) := by
  show (if lo < (if v < hi then v else hi) then (if v < hi then v else hi) else lo).toInt = _
  rw [mx_T, mn_T]
def jnA (a b w : Int32) : Int32 := rX4_limited (w - a) (if -99 - a < b - 99 then b - 99 else -99 - a) (if b + 99 < 99 - a then b + 99 else 99 - a)
def tkM (M : jm_T) (i j : Nat) : jm_T := jm_utk (jm_uja (jm_uch M (upd (jm_ch M) i (jm_ch M i - rX4_limited (jm_ch M i) (-(jm_se M 4) - jm_ja M j) (jm_se M 4 - jm_ja M j)))) (upd (jm_ja M) j (jm_ja M j + rX4_limited (jm_ch M i) (-(jm_se M 4) - jm_ja M j) (jm_se M 4 - jm_ja M j)))) (upd (jm_tk M) j (jm_tk M j + rX4_limited (jm_ch M i) (-(jm_se M 4) - jm_ja M j) (jm_se M 4 - jm_ja M j)))
theorem lk_Z {X D : Int} (hD : 0 ≤ D ∧ D ≤ 60) : (0 ≤ X → 0 ≤ X * D ∧ X * D ≤ 60 * X) ∧ (X ≤ 0 → X * D ≤ 0 ∧ 60 * X ≤ X * D) := by
  constructor
  · intro hX
    refine ⟨Int.mul_nonneg hX hD.1, ?_⟩
    have := Int.mul_le_mul_of_nonneg_left hD.2 hX
    omega
  · intro hX
    have h1 := Int.mul_nonneg (show 0 ≤ -X by omega) hD.1
    have h2 := Int.mul_le_mul_of_nonneg_left hD.2 (show 0 ≤ -X by omega)
    rw [Int.neg_mul] at h1 h2
    omega
theorem lk_T {x d : Int32} (K : Int32) (B : Int) (hB : B ≤ 2000) (hx : -B ≤ x.toInt ∧ x.toInt ≤ B) (hd : 0 ≤ d.toInt ∧ d.toInt ≤ 60) (hK : K.toInt = 100 ∨ K.toInt = 200) : -B ≤ (x - x * d / K).toInt ∧ (x - x * d / K).toInt ≤ B := by
  obtain ⟨z1, z2⟩ := lk_Z (X := x.toInt) hd
  have hm : (x * d).toInt = x.toInt * d.toInt := by
    refine jk_mulT ?_ ?_
    · rcases Int.le_total 0 x.toInt with q | q
      · have := z1 q; omega
      · have := z2 q; omega
    · rcases Int.le_total 0 x.toInt with q | q
      · have := z1 q; omega
      · have := z2 q; omega
  have hq : (x * d / K).toInt = (x.toInt * d.toInt).tdiv K.toInt := by
    rw [Int32.toInt_div, hm]
    refine Int.bmod_eq_of_le ?_ ?_
    · rcases Int.le_total 0 x.toInt with q | q
      · have := z1 q
        have := Int.tdiv_nonneg this.1 (show 0 ≤ K.toInt by omega)
        omega
      · have h9 := z2 q
        have h8 : (x.toInt * d.toInt).tdiv K.toInt = -((-(x.toInt * d.toInt)).tdiv K.toInt) := by rw [Int.neg_tdiv, Int.neg_neg]
        have h7 : (-(x.toInt * d.toInt)).tdiv K.toInt = (-(x.toInt * d.toInt)) / K.toInt := Int.tdiv_eq_ediv_of_nonneg (by omega)
        rcases hK with e | e <;> rw [e] at h8 h7 ⊢ <;> omega
    · rcases Int.le_total 0 x.toInt with q | q
      · have h9 := z1 q
        have h7 : (x.toInt * d.toInt).tdiv K.toInt = (x.toInt * d.toInt) / K.toInt := Int.tdiv_eq_ediv_of_nonneg (by omega)
        rcases hK with e | e <;> rw [e] at h7 ⊢ <;> omega
      · have h9 := z2 q
        have h8 : (x.toInt * d.toInt).tdiv K.toInt = -((-(x.toInt * d.toInt)).tdiv K.toInt) := by rw [Int.neg_tdiv, Int.neg_neg]
        have h7 : (-(x.toInt * d.toInt)).tdiv K.toInt = (-(x.toInt * d.toInt)) / K.toInt := Int.tdiv_eq_ediv_of_nonneg (by omega)
        rcases hK with e | e <;> rw [e] at h8 h7 ⊢ <;> omega
  have hb : (0 ≤ x.toInt → 0 ≤ (x * d / K).toInt ∧ (x * d / K).toInt ≤ x.toInt) ∧ (x.toInt ≤ 0 → x.toInt ≤ (x * d / K).toInt ∧ (x * d / K).toInt ≤ 0) := by
    rw [hq]
    constructor
    · intro q
      have h9 := z1 q
      have h7 : (x.toInt * d.toInt).tdiv K.toInt = (x.toInt * d.toInt) / K.toInt := Int.tdiv_eq_ediv_of_nonneg (by omega)
      rcases hK with e | e <;> rw [e] at h7 ⊢ <;> omega
    · intro q
      have h9 := z2 q
      have h8 : (x.toInt * d.toInt).tdiv K.toInt = -((-(x.toInt * d.toInt)).tdiv K.toInt) := by rw [Int.neg_tdiv, Int.neg_neg]
      have h7 : (-(x.toInt * d.toInt)).tdiv K.toInt = (-(x.toInt * d.toInt)) / K.toInt := Int.tdiv_eq_ediv_of_nonneg (by omega)
      rcases hK with e | e <;> rw [e] at h8 h7 ⊢ <;> omega
  rcases Int.le_total 0 x.toInt with q | q
  · have := hb.1 q
    rw [jk_subT (by omega) (by omega)]
    omega
  · have := hb.2 q
    rw [jk_subT (by omega) (by omega)]
    omega
def lkv (d x : Int32) : Int32 := x - x * d / 100
def lkd (d x : Int32) : Int32 := x * d / 100
theorem lp_lk_eq (M : jm_T) : ∀ k, k ≤ 24 → lp_lk M k = jm_ulk (jm_uch M (fun i => if i < k then lkv (jm_se M 1) (jm_ch M i) else jm_ch M i)) (fo (fun a x => a + x) (jm_lk M) (fun i => lkd (jm_se M 1) (jm_ch M i)) k)
  | 0, _ => rfl
  | k + 1, hk => by
    have ih := lp_lk_eq M k (by omega)
    have hs : jm_se (lp_lk M k) 1 = jm_se M 1 := by rw [ih]; rfl
    have hc : jm_ch (lp_lk M k) (nI k).toNatClampNeg = jm_ch M k := by
      rw [ih, jk_cl (by omega)]
      show (if k < k then _ else _) = _
      rw [if_neg (by omega)]
    have hl : jm_lk (lp_lk M k) = fo (fun a x => a + x) (jm_lk M) (fun i => lkd (jm_se M 1) (jm_ch M i)) k := by rw [ih]; rfl
    have hch : upd (jm_ch (lp_lk M k)) (nI k).toNatClampNeg (lkv (jm_se M 1) (jm_ch M k)) = (fun i => if i < k + 1 then lkv (jm_se M 1) (jm_ch M i) else jm_ch M i) := by
      rw [ih, jk_cl (by omega)]
      funext i
      show (if i = k then lkv (jm_se M 1) (jm_ch M k) else if i < k then lkv (jm_se M 1) (jm_ch M i) else jm_ch M i) = _
      by_cases e : i = k
      · subst e
        rw [if_pos rfl, if_pos (by omega)]
      · rw [if_neg e]
        by_cases e2 : i < k
        · rw [if_pos e2, if_pos (by omega)]
        · rw [if_neg e2, if_neg (by omega)]
    have hrest : ∀ (c : Nat → Int32) (x : Int32), jm_ulk (jm_uch (lp_lk M k) c) x = jm_ulk (jm_uch M c) x := by
      intro c x
      rw [ih]
      rfl
    show jm_ulk (jm_uch (lp_lk M k) (upd (jm_ch (lp_lk M k)) (nI k).toNatClampNeg (jm_ch (lp_lk M k) (nI k).toNatClampNeg - jm_ch (lp_lk M k) (nI k).toNatClampNeg * jm_se (lp_lk M k) 1 / 100))) (jm_lk (lp_lk M k) + jm_ch (lp_lk M k) (nI k).toNatClampNeg * jm_se (lp_lk M k) 1 / 100) = _
    rw [hrest, hs, hc, hl]
    have hch' : upd (jm_ch (lp_lk M k)) (nI k).toNatClampNeg (jm_ch M k - jm_ch M k * jm_se M 1 / 100) = _ := hch
    rw [hch']
    rfl
def lkM (M : jm_T) (j : Nat) : jm_T := jm_ulk (jm_ulj (jm_uja M (upd (jm_ja M) j (jm_ja M j - jm_ja M j * jm_se M 1 / 200))) (upd (jm_lj M) j (jm_lj M j + jm_ja M j * jm_se M 1 / 200))) (jm_lk M + jm_ja M j * jm_se M 1 / 200)
theorem join0_eq {M : jm_T} {T : Nat} (hT : jm_tu M = nI T) (h6 : T < 1000000) : sX2_join_0 M = jm_uch M (upd (upd (jm_ch M) (sg T 2) (jm_ch M (sg T 2) + jnA (jm_ch M (sg T 2)) (jm_ch M (sg T 8)) ((jm_ch M (sg T 2) + jm_ch M (sg T 8)) / 2 + (jm_ch M (sg T 20) - jm_ch M (sg T 14)) * jm_se M 0 / 32))) (sg T 8) (jm_ch M (sg T 8) - jnA (jm_ch M (sg T 2)) (jm_ch M (sg T 8)) ((jm_ch M (sg T 2) + jm_ch M (sg T 8)) / 2 + (jm_ch M (sg T 20) - jm_ch M (sg T 14)) * jm_se M 0 / 32))) := by
  have e1 : (rX2_indexOf 0 2 (jm_tu M)).toNatClampNeg = sg T 2 := by rw [hT]; exact ix0 (p := 2) (by omega) h6
  have e2 : (rX2_indexOf 0 8 (jm_tu M)).toNatClampNeg = sg T 8 := by rw [hT]; exact ix0 (p := 8) (by omega) h6
  have e3 : (rX2_indexOf 1 2 (jm_tu M)).toNatClampNeg = sg T 14 := by rw [hT]; exact ix1 (p := 2) (by omega) h6
  have e4 : (rX2_indexOf 1 8 (jm_tu M)).toNatClampNeg = sg T 20 := by rw [hT]; exact ix1 (p := 8) (by omega) h6
  unfold sX2_join_0
  dsimp only
  rw [e1, e2, e3, e4]
  rfl
theorem join1_eq {M : jm_T} {T : Nat} (hT : jm_tu M = nI T) (h6 : T < 1000000) : sX2_join_1 M = jm_uch M (upd (upd (jm_ch M) (sg T 16) (jm_ch M (sg T 16) + jnA (jm_ch M (sg T 16)) (jm_ch M (sg T 22)) ((jm_ch M (sg T 16) + jm_ch M (sg T 22)) / 2 + (jm_ch M (sg T 10) - jm_ch M (sg T 4)) * jm_se M 0 / 32))) (sg T 22) (jm_ch M (sg T 22) - jnA (jm_ch M (sg T 16)) (jm_ch M (sg T 22)) ((jm_ch M (sg T 16) + jm_ch M (sg T 22)) / 2 + (jm_ch M (sg T 10) - jm_ch M (sg T 4)) * jm_se M 0 / 32))) := by
  have e1 : (rX2_indexOf 1 4 (jm_tu M)).toNatClampNeg = sg T 16 := by rw [hT]; exact ix1 (p := 4) (by omega) h6
  have e2 : (rX2_indexOf 1 10 (jm_tu M)).toNatClampNeg = sg T 22 := by rw [hT]; exact ix1 (p := 10) (by omega) h6
  have e3 : (rX2_indexOf 0 4 (jm_tu M)).toNatClampNeg = sg T 4 := by rw [hT]; exact ix0 (p := 4) (by omega) h6
  have e4 : (rX2_indexOf 0 10 (jm_tu M)).toNatClampNeg = sg T 10 := by rw [hT]; exact ix0 (p := 10) (by omega) h6
  unfold sX2_join_1
  dsimp only
  rw [e1, e2, e3, e4]
  rfl
theorem gather0_eq {M : jm_T} {T : Nat} (hT : jm_tu M = nI T) (h6 : T < 1000000) : sX2_gather_0 M = tkM (tkM M (sg T 0) 0) (sg T 12) 0 := by
  have e1 : (rX2_indexOf 0 0 (jm_tu M)).toNatClampNeg = sg T 0 := by rw [hT]; exact ix0 (p := 0) (by omega) h6
  have e2 : (rX2_indexOf 1 0 (jm_tu M)).toNatClampNeg = sg T 12 := by rw [hT]; exact ix1 (p := 0) (by omega) h6
  unfold sX2_gather_0
  dsimp only
  rw [e1, e2]
  rfl
theorem gather1_eq {M : jm_T} {T : Nat} (hT : jm_tu M = nI T) (h6 : T < 1000000) : sX2_gather_1 M = tkM (tkM M (sg T 6) 1) (sg T 18) 1 := by
  have e1 : (rX2_indexOf 0 6 (jm_tu M)).toNatClampNeg = sg T 6 := by rw [hT]; exact ix0 (p := 6) (by omega) h6
  have e2 : (rX2_indexOf 1 6 (jm_tu M)).toNatClampNeg = sg T 18 := by rw [hT]; exact ix1 (p := 6) (by omega) h6
  unfold sX2_gather_1
  dsimp only
  rw [e1, e2]
  rfl
theorem ahead_eq (M : jm_T) : sX2_turnAheadOfSpark M = lkM (lkM (lp_lk (sX2_gather_1 (sX2_gather_0 (sX2_join_1 (sX2_join_0 (jm_utu M (jm_tu M + 1)))))) 24) 0) 1 := rfl
theorem lg0 {S : Nat} (h : S < 1000000) : (rX2_logIndexOf (nI S)).toNatClampNeg = 3 * (S % 8) ∧ (rX2_logIndexOf (nI S) + 1).toNatClampNeg = 3 * (S % 8) + 1 ∧ (rX2_logIndexOf (nI S) + 2).toNatClampNeg = 3 * (S % 8) + 2 := by
  have e : (rX2_logIndexOf (nI S)).toInt = 3 * ((S : Int) % 8) := by rw [jk_lg_toInt, nI_toInt (by omega)]
  have e1 : (1 : Int32).toInt = 1 := by decide
  have e2 : (2 : Int32).toInt = 2 := by decide
  refine ⟨?_, ?_, ?_⟩
  · show (rX2_logIndexOf (nI S)).toInt.toNat = _
    rw [e]; omega
  · show (rX2_logIndexOf (nI S) + 1).toInt.toNat = _
    rw [jk_addT (by omega) (by omega), e, e1]; omega
  · show (rX2_logIndexOf (nI S) + 2).toInt.toNat = _
    rw [jk_addT (by omega) (by omega), e, e2]; omega
def jpN (a b s : Int32) : Int32 := (a + b) / 2 - (a - (a + b) / 2) * s / 100
theorem jump_eq {M : jm_T} {S : Nat} (hS : jm_sp M = nI S) (h6 : S < 1000000) : sX2_letJump M = jm_usp (jm_ulo (jm_uja M (upd (upd (jm_ja M) 0 (jpN (jm_ja M 0) (jm_ja M 1) (jm_se M 3))) 1 (jm_ja M 0 + jm_ja M 1 - jpN (jm_ja M 0) (jm_ja M 1) (jm_se M 3)))) (upd (upd (upd (jm_lo M) (3 * (S % 8)) (jm_tu M)) (3 * (S % 8) + 1) (jm_ja M 0)) (3 * (S % 8) + 2) (jm_ja M 1))) (jm_sp M + 1) := by
  obtain ⟨e0, e1, e2⟩ := lg0 h6
  unfold sX2_letJump
  dsimp only
  rw [hS, e0, e1, e2]
  rfl
theorem jp_Z {a b : Int} {H s q m : Int} (ha : -H ≤ a ∧ a ≤ H) (hb : -H ≤ b ∧ b ≤ H) (hd : 10 ≤ a - b ∨ 10 ≤ b - a) (hs : 0 ≤ s ∧ s ≤ 60) (hm : m = (a + b).tdiv 2) (hq : q = ((a - m) * s).tdiv 100) : (-H ≤ m - q ∧ m - q ≤ H) ∧ (-H ≤ a + b - (m - q) ∧ a + b - (m - q) ≤ H) ∧ (-6000 * H ≤ (a - m) * s ∧ (a - m) * s ≤ 6000 * H) := by
  obtain ⟨z1, z2⟩ := lk_Z (X := a - m) hs
  have hm1 : a + b - 1 ≤ 2 * m ∧ 2 * m ≤ a + b + 1 := by
    rcases Int.le_total 0 (a + b) with p | p
    · rw [Int.tdiv_eq_ediv_of_nonneg p] at hm
      omega
    · have h8 : (a + b).tdiv 2 = -((-(a + b)).tdiv 2) := by rw [Int.neg_tdiv, Int.neg_neg]
      rw [h8, Int.tdiv_eq_ediv_of_nonneg (by omega)] at hm
      omega
  rcases Int.le_total 0 (a - m) with p | p
  · have h9 := z1 p
    rw [Int.tdiv_eq_ediv_of_nonneg h9.1] at hq
    omega
  · have h9 := z2 p
    have h8 : ((a - m) * s).tdiv 100 = -((-((a - m) * s)).tdiv 100) := by rw [Int.neg_tdiv, Int.neg_neg]
    rw [h8, Int.tdiv_eq_ediv_of_nonneg (by omega)] at hq
    omega
theorem jpr_T {a b s : Int32} {H : Int} (hH : H ≤ 2000) (ha : -H ≤ a.toInt ∧ a.toInt ≤ H) (hb : -H ≤ b.toInt ∧ b.toInt ≤ H) (hd : 10 ≤ a.toInt - b.toInt ∨ 10 ≤ b.toInt - a.toInt) (hs : 0 ≤ s.toInt ∧ s.toInt ≤ 60) : (-H ≤ (jpN a b s).toInt ∧ (jpN a b s).toInt ≤ H) ∧ (-H ≤ (a + b - jpN a b s).toInt ∧ (a + b - jpN a b s).toInt ≤ H) := by
  have e1 : (a + b).toInt = a.toInt + b.toInt := jk_addT (by omega) (by omega)
  have e2 : ((a + b) / 2).toInt = (a.toInt + b.toInt).tdiv 2 := by
    rw [Int32.toInt_div, e1, show (2 : Int32).toInt = 2 by decide]
    refine Int.bmod_eq_of_le ?_ ?_
    all_goals
      rcases Int.le_total 0 (a.toInt + b.toInt) with p | p
      · rw [Int.tdiv_eq_ediv_of_nonneg p]
        omega
      · have h8 : (a.toInt + b.toInt).tdiv 2 = -((-(a.toInt + b.toInt)).tdiv 2) := by rw [Int.neg_tdiv, Int.neg_neg]
        rw [h8, Int.tdiv_eq_ediv_of_nonneg (by omega)]
        omega
  obtain ⟨g1, g2, g3⟩ := jp_Z (m := (a.toInt + b.toInt).tdiv 2) (q := ((a.toInt - (a.toInt + b.toInt).tdiv 2) * s.toInt).tdiv 100) ha hb hd hs rfl rfl
  generalize (a.toInt + b.toInt).tdiv 2 = m at e2 g1 g2 g3
  have hm : -4000 ≤ m ∧ m ≤ 4000 := by
    have := ((a + b) / 2).le_toInt
    have := ((a + b) / 2).toInt_lt
    have k1 : (a + b).toInt - 1 ≤ 2 * m ∧ 2 * m ≤ (a + b).toInt + 1 := by
      rw [Int32.toInt_div] at e2
      rw [← e2, e1, show (2 : Int32).toInt = 2 by decide]
      have hb2 : ((a.toInt + b.toInt).tdiv 2).bmod (2 ^ 32) = (a.toInt + b.toInt).tdiv 2 := by
        refine Int.bmod_eq_of_le ?_ ?_
        all_goals
          rcases Int.le_total 0 (a.toInt + b.toInt) with p | p
          · rw [Int.tdiv_eq_ediv_of_nonneg p]
            omega
          · have h8 : (a.toInt + b.toInt).tdiv 2 = -((-(a.toInt + b.toInt)).tdiv 2) := by rw [Int.neg_tdiv, Int.neg_neg]
            rw [h8, Int.tdiv_eq_ediv_of_nonneg (by omega)]
            omega
      rw [hb2]
      rcases Int.le_total 0 (a.toInt + b.toInt) with p | p
      · rw [Int.tdiv_eq_ediv_of_nonneg p]
        omega
      · have h8 : (a.toInt + b.toInt).tdiv 2 = -((-(a.toInt + b.toInt)).tdiv 2) := by rw [Int.neg_tdiv, Int.neg_neg]
        rw [h8, Int.tdiv_eq_ediv_of_nonneg (by omega)]
        omega
    omega
  have e3 : (a - (a + b) / 2).toInt = a.toInt - m := by rw [jk_subT (by omega) (by omega), e2]
  have e4 : ((a - (a + b) / 2) * s).toInt = (a.toInt - m) * s.toInt := by rw [jk_mulT (by rw [e3]; omega) (by rw [e3]; omega), e3]
  have e5 : ((a - (a + b) / 2) * s / 100).toInt = ((a.toInt - m) * s.toInt).tdiv 100 := by
    rw [Int32.toInt_div, e4, show (100 : Int32).toInt = 100 by decide]
    refine Int.bmod_eq_of_le ?_ ?_
    · omega
    · omega
  have e6 : (jpN a b s).toInt = m - ((a.toInt - m) * s.toInt).tdiv 100 := by
    unfold jpN
    rw [jk_subT (by rw [e2, e5]; omega) (by rw [e2, e5]; omega), e2, e5]
  rw [jk_subT (by rw [e1, e6]; omega) (by rw [e1, e6]; omega), e1, e6]
  exact ⟨g1, g2⟩
theorem ixd {d p T : Nat} (hd : d < 2) (hp : p < 12) (hT : T < 1000000) : (rX2_indexOf (nI d) (nI p) (nI T)).toNatClampNeg = sg T (12 * d + p) := by
  rcases (show d = 0 ∨ d = 1 by omega) with e | e <;> subst e
  · rw [show 12 * 0 + p = p by omega]
    exact ix0 hp hT
  · exact ix1 hp hT
theorem fid {d : Nat} (hd : d < 2) : rX2_firstIndexOf (nI d) = nI (12 * d) := by
  rcases (show d = 0 ∨ d = 1 by omega) with e | e <;> subst e <;> rfl
theorem ldz {d k : Nat} (hd : d < 2) (hk : k < 12) : (nI (12 * d) + nI k).toNatClampNeg = 12 * d + k := by rw [nI_add, jk_cl (by omega)]
theorem max_fo (f : Nat → Int32) {d : Nat} (hd : d < 2) : ∀ k, k ≤ 12 → lp_max f (nI (12 * d)) k = fo mxo (-99) (fun i => f (12 * d + i)) k
  | 0, _ => rfl
  | k + 1, hk => by
    rw [lp_max, max_fo f hd k (by omega), ldz hd (by omega)]
    rfl
theorem min_fo (f : Nat → Int32) {d : Nat} (hd : d < 2) : ∀ k, k ≤ 12 → lp_min f (nI (12 * d)) k = fo mno 99 (fun i => f (12 * d + i)) k
  | 0, _ => rfl
  | k + 1, hk => by
    rw [lp_min, min_fo f hd k (by omega), ldz hd (by omega)]
    rfl
theorem sg1_if (x a : Int32) : (if rJ6_signum_0f7a4 x = 1 then a + 1 else a) = a + (if x ≤ 0 then 0 else 1) := by
  rw [sig_eq]
  by_cases c : x < 0
  · rw [if_pos c, if_neg (by decide), if_pos (Int32.le_of_lt c), Int32.add_zero]
  · rw [if_neg c]
    by_cases c2 : x = 0
    · rw [if_pos c2, if_neg (by decide), if_pos (by rw [c2]; exact Int32.le_refl _), Int32.add_zero]
    · rw [if_neg c2, if_pos rfl, if_neg]
      intro q
      exact c2 (Int32.le_antisymm q (Int32.not_lt.mp c))
theorem sgm_if (x a : Int32) : (if rJ6_signum_0f7a4 x = -1 then a + 1 else a) = a + (if 0 ≤ x then 0 else 1) := by
  rw [sig_eq]
  by_cases c : x < 0
  · rw [if_pos c, if_pos rfl, if_neg (Int32.not_le.mpr c)]
  · rw [if_neg c, if_pos (Int32.not_lt.mp c), Int32.add_zero]
    by_cases c2 : x = 0
    · rw [if_pos c2, if_neg (by decide)]
    · rw [if_neg c2, if_neg (by decide)]
theorem sgn1_fo (f : Nat → Int32) {d : Nat} (hd : d < 2) : ∀ k, k ≤ 12 → lp_sgn f (nI (12 * d)) 1 k = fo (fun a x => a + (if x ≤ 0 then 0 else 1)) 0 (fun i => f (12 * d + i)) k
  | 0, _ => rfl
  | k + 1, hk => by
    rw [lp_sgn, sgn1_fo f hd k (by omega), ldz hd (by omega), sg1_if]
    rfl
theorem sgnm_fo (f : Nat → Int32) {d : Nat} (hd : d < 2) : ∀ k, k ≤ 12 → lp_sgn f (nI (12 * d)) (-1) k = fo (fun a x => a + (if 0 ≤ x then 0 else 1)) 0 (fun i => f (12 * d + i)) k
  | 0, _ => rfl
  | k + 1, hk => by
    rw [lp_sgn, sgnm_fo f hd k (by omega), ldz hd (by omega), sgm_if]
    rfl
theorem sum_fo (f : Nat → Int32) {d : Nat} (hd : d < 2) : ∀ k, k ≤ 12 → lp_sum f (nI (12 * d)) k = fo (fun a x => a + x) 0 (fun i => f (12 * d + i)) k := fun k hk => lp_sum_fo f (12 * d) (by omega) k hk
theorem zero_eq (f : Nat → Int32) {d : Nat} (hd : d < 2) : ∀ k, k ≤ 12 → lp_zero f (nI (12 * d)) k = fun i => if 12 * d ≤ i ∧ i < 12 * d + k then 0 else f i
  | 0, _ => by
    funext i
    show f i = _
    rw [if_neg (by omega)]
  | k + 1, hk => by
    rw [lp_zero, zero_eq f hd k (by omega), ldz hd (by omega)]
    funext i
    unfold upd
    by_cases e : i = 12 * d + k
    · rw [if_pos e, if_pos (by omega)]
    · rw [if_neg e]
      show (if 12 * d ≤ i ∧ i < 12 * d + k then 0 else f i) = (if 12 * d ≤ i ∧ i < 12 * d + (k + 1) then 0 else f i)
      by_cases e2 : 12 * d ≤ i ∧ i < 12 * d + k
      · rw [if_pos e2, if_pos (by omega)]
      · rw [if_neg e2, if_neg (by omega)]
theorem add4 (a b x y : Int32) : (a + x) + (b + y) = (a + b) + (x + y) := by
  rw [Int32.add_assoc, ← Int32.add_assoc x, Int32.add_comm x b, Int32.add_assoc b, ← Int32.add_assoc]
theorem cnt_fo (v : Nat → Int32) : ∀ k, fo (fun a x => a + (if x ≤ 0 then 0 else 1)) 0 v k + fo (fun a x => a + (if 0 ≤ x then 0 else 1)) 0 v k = fo (fun a x => a + (if x = 0 then (0 : Int32) else 1)) 0 v k
  | 0 => rfl
  | k + 1 => by
    show (fo (fun a x => a + (if x ≤ 0 then 0 else 1)) 0 v k + (if v k ≤ 0 then 0 else 1)) + (fo (fun a x => a + (if 0 ≤ x then 0 else 1)) 0 v k + (if 0 ≤ v k then 0 else 1)) = fo (fun a x => a + (if x = 0 then (0 : Int32) else 1)) 0 v k + (if v k = 0 then (0 : Int32) else 1)
    rw [add4, cnt_fo v k]
    congr 1
    by_cases c : v k = 0
    · rw [c]
      rfl
    · rw [if_neg c]
      by_cases c1 : v k ≤ 0
      · rw [if_pos c1, if_neg (fun q => c (Int32.le_antisymm c1 q))]
        rfl
      · rw [if_neg c1, if_pos (Int32.le_of_lt (Int32.not_le.mp c1))]
        rfl
theorem rgN {x : Int32} {n : Nat} (h0 : 0 ≤ x.toInt) (h1 : x.toInt < n) (hn : n < 1000000) : ∃ d, d < n ∧ x = nI d := ⟨x.toInt.toNat, by omega, Int32.toInt_inj.mp (by rw [nI_toInt (by omega)]; omega)⟩
theorem lt2i : (2 : Int32).toInt = 2 := by decide
theorem lt12i : (12 : Int32).toInt = 12 := by decide
theorem nod {d : Nat} (hd : d < 2) : rX4_isNoDisc (nI d) = 0 := by
  rcases (show d = 0 ∨ d = 1 by omega) with e | e <;> subst e <;> decide
theorem npl {q : Nat} (hq : q < 12) : rX4_isNoPlace (nI q) = 0 := by
  unfold rX4_isNoPlace
  rw [if_neg, if_pos]
  · rw [Int32.lt_iff_toInt_lt, nI_toInt (by omega), lt12i]; omega
  · rw [Int32.lt_iff_toInt_lt, nI_toInt (by omega), Int32.toInt_zero]; omega
def szl : Nat → Int := fun i => if i = 2 then 1 else if i = 4 then 100 else 0
def szh : Nat → Int := fun i => if i = 0 then 32 else if i = 2 then 200 else if i = 4 then 2000 else 60
theorem jz_lT : ∀ i, i < 5 → (jz_lo i).toInt = szl i := by decide
theorem jz_hT : ∀ i, i < 5 → (jz_hi i).toInt = szh i := by decide
