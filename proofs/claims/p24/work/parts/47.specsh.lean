/-! ===== the history: where the next row is ===== -/
def jh_b (M : jh_T) : jh_T := if jh_sz M = 6 then jh_usz (jh_uol M (jh_ol M + 1)) (jh_sz M - 1) else M
def jh_ix (M : jh_T) : Int32 := rJ9_floorMod_7cf53 (jh_ol (jh_b M) + jh_sz (jh_b M)) 6
def jh_rec (M : jh_T) : jh_T := jh_usz (jh_b M) (jh_sz (jh_b M) + 1)
def jh_ib (M : jh_T) : Int32 := rJ9_floorMod_7cf53 (jh_ol M + jh_sz M - 1) 6
theorem jh_fm_in (x : Int32) : vp_in (rJ9_floorMod_7cf53 x 6) 6 := vp_in_iff.mpr (by
  have h := jk_fm x 6 (by decide)
  rw [show (6 : Int32).toInt = 6 by decide] at h
  omega)
theorem jh_ix_in (M : jh_T) : vp_in (jh_ix M) 6 := jh_fm_in _
theorem jh_ix_lt (M : jh_T) : (jh_ix M).toNatClampNeg < 6 := Nat.not_le.mp fun q => jh_ix_in M (Or.inr q)
theorem jh_ib_lt (M : jh_T) : (jh_ib M).toNatClampNeg < 6 := Nat.not_le.mp fun q => jh_fm_in _ (Or.inr q)
theorem jh_ix6 {M : jh_T} (c : jh_sz M = 6) : rJ9_floorMod_7cf53 (jh_ol M + 1 + (jh_sz M - 1)) 6 = jh_ix M := by
  unfold jh_ix jh_b
  rw [if_pos c]
  rfl
theorem jh_ixn {M : jh_T} (c : ¬ jh_sz M = 6) : rJ9_floorMod_7cf53 (jh_ol M + jh_sz M) 6 = jh_ix M := by
  unfold jh_ix jh_b
  rw [if_neg c]
theorem jh_rec6 {M : jh_T} (c : jh_sz M = 6) : jh_rec M = jh_usz (jh_uol M (jh_ol M + 1)) (jh_sz M - 1 + 1) := by
  unfold jh_rec jh_b
  rw [if_pos c]
  rfl
theorem jh_recn {M : jh_T} (c : ¬ jh_sz M = 6) : jh_rec M = jh_usz M (jh_sz M + 1) := by
  unfold jh_rec jh_b
  rw [if_neg c]
theorem jh_ald {ad : Nat → Nat → Nat} {F : jf_T} {i j : Int32} {M : jm_T} (e : i = j) (h : F j.toNatClampNeg = some M) : va_rf (jq ad F i.toNatClampNeg) = .ref (ad j.toNatClampNeg 0) := by
  rw [e, jq_some h]
  rfl
theorem jh_aldn {ad : Nat → Nat → Nat} {F : jf_T} {i j : Int32} (e : i = j) (h : F j.toNatClampNeg = none) : va_rf (jq ad F i.toNatClampNeg) = .null := by
  rw [e, jq_none h]
  rfl
