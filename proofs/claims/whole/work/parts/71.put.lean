/-! ===== a number's characters ===== -/
theorem a255n (q : Int64) : ∃ m : Nat, m ≤ 255 ∧ (q &&& 255).toInt = m := by
  have h1 : (q &&& 255).toBitVec = q.toBitVec &&& 255#64 := rfl
  have h2 : (q.toBitVec &&& 255#64).toNat ≤ 255 := by
    rw [BitVec.toNat_and]
    exact Nat.and_le_right
  refine ⟨(q.toBitVec &&& 255#64).toNat, h2, ?_⟩
  show (q &&& 255).toBitVec.toInt = _
  rw [h1]
  exact BitVec.toInt_eq_toNat_of_lt (by omega)
theorem a255i (q : Int64) {m : Nat} (hm : m ≤ 255) (h : (q &&& 255).toInt = m) : (q &&& 255).toInt32 = nI m := by
  refine Int32.toInt_inj.mp ?_
  rw [Int64.toInt_toInt32, h, nI_toInt (by omega)]
  exact Int.bmod_eq_of_le (by omega) (by omega)
theorem in255 (q : Int64) {m : Nat} (h : (q &&& 255).toInt = m) : rX5_in (q &&& 255) 33 126 = 0 ↔ ¬ (33 ≤ m ∧ m ≤ 126) := by
  unfold rX5_in
  have e33 : (33 : Int64).toInt = 33 := by decide
  have e126 : (126 : Int64).toInt = 126 := by decide
  have c1 : lg_cmp (q &&& 255) 33 < 0 ↔ m < 33 := by
    rw [lg_cmp_lt, Int64.lt_iff_toInt_lt, h, e33]
    omega
  have c2 : 0 < lg_cmp (q &&& 255) 126 ↔ 126 < m := by
    rw [lg_cmp_gt, Int64.lt_iff_toInt_lt, h, e126]
    omega
  by_cases k : lg_cmp (q &&& 255) 33 < 0
  · rw [if_pos k]
    exact ⟨fun _ z => absurd (c1.mp k) (by omega), fun _ => rfl⟩
  · rw [if_neg k]
    by_cases k2 : 0 < lg_cmp (q &&& 255) 126
    · rw [if_pos k2]
      exact ⟨fun _ z => absurd (c2.mp k2) (by omega), fun _ => rfl⟩
    · rw [if_neg k2]
      refine ⟨fun z => absurd z (by decide), fun z => absurd ?_ z⟩
      have a : ¬ m < 33 := fun z => k (c1.mpr z)
      have b : ¬ 126 < m := fun z => k2 (c2.mpr z)
      omega
theorem sh8 (q : Int64) : ((q.toUInt64 >>> ((8 : Int32).toInt64.toUInt64 &&& Int64.toUInt64 63)).toInt64).toUInt64.toNat = q.toUInt64.toNat / 256 := by
  show (q.toUInt64 >>> ((8 : Int32).toInt64.toUInt64 &&& Int64.toUInt64 63)).toNat = _
  rw [UInt64.toNat_shiftRight, show ((8 : Int32).toInt64.toUInt64 &&& Int64.toUInt64 63).toNat % 64 = 8 by decide, Nat.shiftRight_eq_div_pow]
theorem q0_of {q : Int64} (h : q.toUInt64.toNat < 1) : q = 0 := by
  have e : q.toUInt64.toNat = 0 := by omega
  have e2 : q.toBitVec = 0#64 := BitVec.eq_of_toNat_eq (by
    show q.toUInt64.toNat = _
    rw [e]
    rfl)
  exact Int64.toBitVec_inj.mp e2
theorem ci_eq : ∀ (n : Nat) (q : Int64) (k : Nat), q.toUInt64.toNat < 256 ^ n → lc_ci n q k = if lg_cmp (lx_co n q).2 0 = 0 then nI (k + (lx_co n q).1) else 0
  | 0, q, k, h => by
    have e := q0_of h
    rw [e]
    show nI k = if lg_cmp (0 : Int64) 0 = 0 then nI (k + 0) else 0
    rw [if_pos ((lg_cmp_eq 0 0).mpr rfl)]
    rfl
  | n + 1, q, k, h => by
    obtain ⟨m, hm, em⟩ := a255n q
    have ei := a255i q hm em
    have hin := in255 q em
    have e33 : (33 : Int32).toInt = 33 := by decide
    have e126 : (126 : Int32).toInt = 126 := by decide
    rw [lc_ci, ei]
    by_cases c0 : lg_cmp q 0 = 0
    · have eq := (lg_cmp_eq q 0).mp c0
      have em0 : m = 0 := by
        rw [eq] at em
        have e3 : ((0 : Int64) &&& 255).toInt = 0 := by decide
        rw [e3] at em
        omega
      have ez : lx_co (n + 1) q = (0, q) := if_pos (hin.mpr (by omega))
      rw [if_pos c0, ez, if_pos c0]
      rfl
    · rw [if_neg c0]
      by_cases c1 : 33 ≤ m ∧ m ≤ 126
      · have k1 : ¬ nI m < 33 := by rw [Int32.lt_iff_toInt_lt, nI_toInt (by omega), e33]; omega
        have k2 : nI m ≤ 126 := by rw [Int32.le_iff_toInt_le, nI_toInt (by omega), e126]; omega
        have ez : lx_co (n + 1) q = ((lx_co n (q.toUInt64 >>> ((8 : Int32).toInt64.toUInt64 &&& Int64.toUInt64 63)).toInt64).1 + 1, (lx_co n (q.toUInt64 >>> ((8 : Int32).toInt64.toUInt64 &&& Int64.toUInt64 63)).toInt64).2) := if_neg (fun z => hin.mp z c1)
        have hs := sh8 q
        rw [if_neg k1, if_pos k2, ez]
        generalize (q.toUInt64 >>> ((8 : Int32).toInt64.toUInt64 &&& Int64.toUInt64 63)).toInt64 = q2 at hs
        have ih := ci_eq n q2 (k + 1) (by
          rw [hs]
          rw [Nat.pow_succ] at h
          omega)
        rw [ih]
        show (if lg_cmp (lx_co n q2).2 0 = 0 then nI (k + 1 + (lx_co n q2).1) else 0) = if lg_cmp (lx_co n q2).2 0 = 0 then nI (k + ((lx_co n q2).1 + 1)) else 0
        rw [show k + 1 + (lx_co n q2).1 = k + ((lx_co n q2).1 + 1) by omega]
      · have ez : lx_co (n + 1) q = (0, q) := if_pos (hin.mpr c1)
        rw [ez, if_neg c0]
        by_cases k1 : nI m < 33
        · rw [if_pos k1]
        · rw [if_neg k1, if_neg]
          rw [Int32.lt_iff_toInt_lt, nI_toInt (by omega), e33] at k1
          rw [Int32.le_iff_toInt_le, nI_toInt (by omega), e126]
          omega
theorem ci_chars (v : Int64) : lc_ci 8 v 0 = lx_chars v := by
  rw [ci_eq 8 v 0 (by
    have := v.toUInt64.toNat_lt
    show v.toUInt64.toNat < 18446744073709551616
    omega)]
  unfold lx_chars
  rw [Nat.zero_add]
theorem nar_all : ∀ m : Nat, m < 256 → vp_nar .char (((nI m).toUInt32 % 65536).toInt32) = nI m ∧ narrow .char (.int (nI m)) = .int (nI m) := by decide +kernel
theorem chr_nar (v : Int64) (n : Int32) (k : Nat) : vp_nar .char ((((lx_chr v n k)).toUInt32 % 65536).toInt32) = lx_chr v n k ∧ narrow .char (.int (lx_chr v n k)) = .int (lx_chr v n k) := by
  unfold lx_chr
  generalize (v.toUInt64 >>> ((8 * (n - 1 - nI k)).toInt64.toUInt64 &&& Int64.toUInt64 63)).toInt64 = q
  obtain ⟨m, hm, em⟩ := a255n q
  rw [a255i q hm em]
  exact nar_all m (by omega)
theorem app_put {f f' : Nat → Int32} {t : Nat} (ht : t ≤ 60) (v : Int64) (n : Int32) (he : ∀ j, j < t → f j = f' j) (hc : ∀ j, narrow .char (.int (f j)) = .int (f j)) : ∀ k, k ≤ 8 → (∀ j, j < t + k → lc_app f t v n k j = lx_put f' (nI t) v n k j) ∧ ∀ j, narrow .char (.int (lc_app f t v n k j)) = .int (lc_app f t v n k j)
  | 0, _ => ⟨he, hc⟩
  | k + 1, hk => by
    obtain ⟨a, b⟩ := app_put ht v n he hc k (by omega)
    have e1 : lc_app f t v n (k + 1) = upd (lc_app f t v n k) (t + k) (lx_chr v n k) := by
      have := (chr_nar v n k).1
      rw [lc_app]
      exact congrArg (upd (lc_app f t v n k) (t + k)) this
    have e2 : lx_put f' (nI t) v n (k + 1) = upd (lx_put f' (nI t) v n k) (t + k) (lx_chr v n k) := by
      rw [lx_put, nI_add, jk_cl (by omega)]
    rw [e1, e2]
    constructor
    · intro j hj
      by_cases q : j = t + k
      · rw [q, pk_us, pk_us]
      · rw [pk_un q, pk_un q]
        exact a j (by omega)
    · intro j
      by_cases q : j = t + k
      · rw [q, pk_us]
        exact (chr_nar v n k).2
      · rw [pk_un q]
        exact b j
theorem rl_put {P : jp_T} {X : jx_T} (h : rlp P X) (v : Int64) : ∃ tt cn, jp_ln P = nI tt ∧ lc_ci 8 v 0 = nI cn ∧ tt ≤ 60 ∧ cn ≤ 8 ∧ (if lc_ci 8 v 0 = 0 then (-1000002) else if jp_ln P + lc_ci 8 v 0 ≤ 60 then nI (tt + cn) else (-1000004)) = rX5_put X v ∧ rlp (if lc_ci 8 v 0 = 0 then P else if jp_ln P + lc_ci 8 v 0 ≤ 60 then (jp_uln (jp_usg P (lc_app (jp_sg P) tt v (lc_ci 8 v 0) cn)) (nI (tt + cn))) else P) (sX5_put X v) ∧ jx_al (sX5_put X v) = jx_al X ∧ jx_hi (sX5_put X v) = jx_hi X ∧ jx_hl (sX5_put X v) = jx_hl X ∧ jx_sl (sX5_put X v) = jx_sl X ∧ jx_sv (sX5_put X v) = jx_sv X := by
  obtain ⟨t, h1, h2, h3, h4, h5⟩ := id h
  obtain ⟨c, hc, ec⟩ := lx_chars_n v
  refine ⟨t, c, h3, (ci_chars v).trans ec, h1, hc, ?_⟩
  unfold rX5_put sX5_put
  dsimp only
  rw [ci_chars v, h3, h2]
  by_cases k1 : lx_chars v = 0
  · rw [if_pos k1, if_pos k1, if_pos k1, if_pos k1]
    exact ⟨rfl, h, rfl, rfl, rfl, rfl, rfl⟩
  · rw [if_neg k1, if_neg k1, if_neg k1, if_neg k1]
    by_cases k2 : nI t + lx_chars v ≤ 60
    · rw [if_pos k2, if_pos k2, if_pos k2, if_pos k2]
      have k3 : t + c ≤ 60 := by
        rw [ec, nI_add, Int32.le_iff_toInt_le, nI_toInt (by omega), show (60 : Int32).toInt = 60 by decide] at k2
        omega
      have ecl : (lx_chars v).toNatClampNeg = c := by rw [ec, jk_cl (by omega)]
      obtain ⟨a, b⟩ := app_put h1 v (lx_chars v) h4 h5 c hc
      have es : nI t + lx_chars v = nI (t + c) := by rw [ec, nI_add]
      rw [ecl]
      generalize lc_app (jp_sg P) t v (lx_chars v) c = g1 at a b ⊢
      generalize lx_put (jx_tx X) (nI t) v (lx_chars v) c = g2 at a ⊢
      rw [es]
      refine ⟨rfl, ⟨t + c, k3, rfl, rfl, a, b⟩, rfl, rfl, rfl, rfl, rfl⟩
    · rw [if_neg k2, if_neg k2, if_neg k2, if_neg k2]
      exact ⟨rfl, h, rfl, rfl, rfl, rfl, rfl⟩
