/-! ===== the same cells in another order ===== -/
def fo {α : Type} (op : α → Int32 → α) (z : α) (v : Nat → Int32) : Nat → α
  | 0 => z
  | k + 1 => op (fo op z v k) (v k)
theorem fo_list {α : Type} (op : α → Int32 → α) (z : α) (v : Nat → Int32) : ∀ n, fo op z v n = ((List.range n).map v).foldl op z
  | 0 => rfl
  | n + 1 => by
    rw [List.range_succ, List.map_append, List.foldl_append, ← fo_list op z v n]
    rfl
theorem fo_perm {α : Type} {op : α → Int32 → α} (hc : ∀ a x y, op (op a x) y = op (op a y) x) (z : α) (v : Nat → Int32) (s : Nat → Nat) (n : Nat) (hp : ((List.range n).map s).Perm (List.range n)) : fo op z (fun k => v (s k)) n = fo op z v n := by
  rw [fo_list, fo_list]
  have e : (List.range n).map (fun k => v (s k)) = ((List.range n).map s).map v := by
    rw [List.map_map]
    rfl
  rw [e]
  exact (hp.map v).foldl_eq' (fun x _ y _ w => hc w x y) z
theorem fo_congr {α : Type} (op : α → Int32 → α) (z : α) {v w : Nat → Int32} : ∀ n, (∀ k, k < n → v k = w k) → fo op z v n = fo op z w n
  | 0, _ => rfl
  | n + 1, h => by
    show op (fo op z v n) (v n) = op (fo op z w n) (w n)
    rw [fo_congr op z n (fun k hk => h k (by omega)), h n (by omega)]
theorem addrc (a x y : Int32) : a + x + y = a + y + x := by rw [Int32.add_assoc, Int32.add_comm x, ← Int32.add_assoc]
theorem fo_add (z z' : Int32) (v : Nat → Int32) : ∀ n, fo (fun a x => a + x) (z + z') v n = z + fo (fun a x => a + x) z' v n
  | 0 => rfl
  | n + 1 => by
    show fo (fun a x => a + x) (z + z') v n + v n = z + (fo (fun a x => a + x) z' v n + v n)
    rw [fo_add z z' v n, Int32.add_assoc]
def mxo (a x : Int32) : Int32 := if a < x then x else a
def mno (a x : Int32) : Int32 := if x < a then x else a
theorem mxo_c (a x y : Int32) : mxo (mxo a x) y = mxo (mxo a y) x := by
  unfold mxo
  simp only [Int32.lt_iff_toInt_lt]
  refine Int32.toInt_inj.mp ?_
  repeat' split
  all_goals omega
theorem mno_c (a x y : Int32) : mno (mno a x) y = mno (mno a y) x := by
  unfold mno
  simp only [Int32.lt_iff_toInt_lt]
  refine Int32.toInt_inj.mp ?_
  repeat' split
  all_goals omega
theorem pm12 (K : Nat) : ((List.range 12).map (fun p => (p + K) % 12)).Perm (List.range 12) := by
  have h : ∀ r, r < 12 → ((List.range 12).map (fun p => (p + r) % 12)).isPerm (List.range 12) = true := by decide +kernel
  have e : (List.range 12).map (fun p => (p + K) % 12) = (List.range 12).map (fun p => (p + K % 12) % 12) := List.map_congr_left (fun p _ => by omega)
  rw [e]
  exact List.isPerm_iff.mp (h (K % 12) (Nat.mod_lt _ (by omega)))
/-- where the program has the cell that stands at a place: c is the place, 12 more on the back disc; T turns are done -/
def sg (T c : Nat) : Nat := if c < 12 then (c + 11 * T) % 12 else 12 + (c + T) % 12
theorem sg_lt (T c : Nat) : sg T c < 24 := by
  unfold sg
  split <;> omega
theorem sg_inj {T c c' : Nat} (h : c < 24) (h' : c' < 24) (e : sg T c = sg T c') : c = c' := by
  unfold sg at e
  split at e <;> split at e <;> omega
theorem pm24 (T : Nat) : ((List.range 24).map (sg T)).Perm (List.range 24) := by
  have h : ∀ r, r < 12 → ((List.range 24).map (sg r)).isPerm (List.range 24) = true := by decide +kernel
  have e : (List.range 24).map (sg T) = (List.range 24).map (sg (T % 12)) := List.map_congr_left (fun p _ => by unfold sg; split <;> omega)
  rw [e]
  exact List.isPerm_iff.mp (h (T % 12) (Nat.mod_lt _ (by omega)))
theorem ix0 {p T : Nat} (hp : p < 12) (hT : T < 1000000) : (rX2_indexOf 0 (nI p) (nI T)).toNatClampNeg = sg T p := by
  have a1 := jk_fm (nI p - nI T) 12 (by decide)
  have ep : (nI p).toInt = p := nI_toInt (by omega)
  have eT : (nI T).toInt = T := nI_toInt (by omega)
  rw [jk_12, jk_subT (by omega) (by omega), ep, eT] at a1
  have e : rX2_indexOf 0 (nI p) (nI T) = rJ9_floorMod_7cf53 (nI p - nI T) 12 := if_pos rfl
  rw [e]
  show (rJ9_floorMod_7cf53 (nI p - nI T) 12).toInt.toNat = sg T p
  rw [a1]
  unfold sg
  rw [if_pos hp]
  omega
theorem ix1 {p T : Nat} (hp : p < 12) (hT : T < 1000000) : (rX2_indexOf 1 (nI p) (nI T)).toNatClampNeg = sg T (12 + p) := by
  have a1 := jk_fm (nI p + nI T) 12 (by decide)
  have ep : (nI p).toInt = p := nI_toInt (by omega)
  have eT : (nI T).toInt = T := nI_toInt (by omega)
  rw [jk_12, jk_addT (by omega) (by omega), ep, eT] at a1
  have e : rX2_indexOf 1 (nI p) (nI T) = 12 + rJ9_floorMod_7cf53 (nI p + nI T) 12 := if_neg (by decide)
  rw [e]
  show (12 + rJ9_floorMod_7cf53 (nI p + nI T) 12).toInt.toNat = sg T (12 + p)
  have hb : (12 + rJ9_floorMod_7cf53 (nI p + nI T) 12).toInt = 12 + ((p : Int) + T) % 12 := by
    rw [jk_addT (by rw [jk_12, a1]; omega) (by rw [jk_12, a1]; omega), jk_12, a1]
  rw [hb]
  unfold sg
  rw [if_neg (by omega)]
  omega
/-! ===== a sign ===== -/
theorem sig_eq (x : Int32) : rJ6_signum_0f7a4 x = if x < 0 then -1 else if x = 0 then 0 else 1 := by
  have h1 : (x >>> (31 &&& 31)).toInt = x.toInt >>> 31 := pk_shr x (31 &&& 31) 31 (by decide)
  have h2 : ((((-x) : Int32).toUInt32 >>> (((31 : Int32)).toUInt32 &&& Int32.toUInt32 31)).toInt32).toBitVec.toNat = (-x).toBitVec.toNat / 2 ^ 31 := pk_ushr (-x) 31 31 (by decide)
  have hx1 : -2147483648 ≤ x.toInt := x.le_toInt
  have hx2 : x.toInt < 2147483648 := x.toInt_lt
  unfold rJ6_signum_0f7a4
  dsimp only
  generalize (((-x) : Int32).toUInt32 >>> (((31 : Int32)).toUInt32 &&& Int32.toUInt32 31)).toInt32 = y at h2 ⊢
  generalize x >>> (31 &&& 31) = w at h1 ⊢
  rw [Int.shiftRight_eq_div_pow] at h1
  by_cases c : x < 0
  · rw [if_pos c]
    rw [Int32.lt_iff_toInt_lt, Int32.toInt_zero] at c
    have e : w = -1 := Int32.toInt_inj.mp (by rw [h1, show (-1 : Int32).toInt = -1 by decide]; omega)
    rw [e, Int32.neg_one_or]
  · rw [if_neg c]
    rw [Int32.lt_iff_toInt_lt, Int32.toInt_zero] at c
    have e : w = 0 := Int32.toInt_inj.mp (by rw [h1, Int32.toInt_zero]; omega)
    rw [e, Int32.zero_or]
    by_cases c2 : x = 0
    · rw [if_pos c2]
      subst c2
      have : y.toBitVec = 0 := BitVec.eq_of_toNat_eq (by rw [h2]; decide)
      exact Int32.toBitVec_inj.mp this
    · rw [if_neg c2]
      have c3 : x.toInt ≠ 0 := fun z => c2 (Int32.toInt_inj.mp z)
      have e2 : (-x).toInt = -x.toInt := jk_negT (by omega)
      have e3 : (-x).toInt = ((-x).toBitVec.toNat : Int).bmod (2 ^ 32) := BitVec.toInt_eq_toNat_bmod _
      have e4 : ((-x).toBitVec.toNat : Int) < 2 ^ 32 := by
        have := (-x).toBitVec.isLt
        omega
      have e5 : (-x).toBitVec.toNat / 2 ^ 31 = 1 := by
        rw [e2, Int.bmod_def] at e3
        split at e3 <;> omega
      have : y.toBitVec = 1 := BitVec.eq_of_toNat_eq (by rw [h2, e5]; rfl)
      exact Int32.toBitVec_inj.mp this
