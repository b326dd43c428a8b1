/-! ===== deeds ===== -/
theorem put_T {N : jm_T} {T : Nat} (hT : jm_tu N = nI T) (h6 : T < 1000000) {d p : Nat} (hd : d < 2) (hp : p < 12) (x : Int32) : rX2_putCharge N (nI d) (nI p) x = jm_ch N (sg T (12 * d + p)) ∧ sX2_putCharge N (nI d) (nI p) x = jm_upo (jm_uch N (upd (jm_ch N) (sg T (12 * d + p)) x)) (jm_po N + (x - jm_ch N (sg T (12 * d + p)))) := by
  have e := ixd hd hp h6
  unfold rX2_putCharge sX2_putCharge
  dsimp only
  rw [hT, e]
  exact ⟨rfl, rfl⟩
theorem put_ng {N : jm_T} {T : Nat} (hT : jm_tu N = nI T) (h6 : T < 1000000) {d p : Nat} (hd : d < 2) (hp : p < 12) (x : Int32) : sX2_putCharge (ng N) (nI d) (nI p) (-x) = ng (sX2_putCharge N (nI d) (nI p) x) := by
  rw [(put_T hT h6 hd hp x).2, (put_T (N := ng N) hT h6 hd hp (-x)).2]
  have e1 : ng (jm_upo (jm_uch N (upd (jm_ch N) (sg T (12 * d + p)) x)) (jm_po N + (x - jm_ch N (sg T (12 * d + p))))) = jm_upo (jm_uch (ng N) (ngf (upd (jm_ch N) (sg T (12 * d + p)) x))) (-(jm_po N + (x - jm_ch N (sg T (12 * d + p))))) := rfl
  rw [e1, ngf_upd, ← nq_add, ← nq_sub]
  rfl
theorem put_K {K : Nat} {N : jm_T} (h : Tst K N) (h6 : K < 1000000) {d p : Nat} (hd : d < 2) (hp : p < 12) {x : Int32} (hx : r99 x) : Tst K (sX2_putCharge N (nI d) (nI p) x) := by
  obtain ⟨T, S, h1, h2, h3, h4, h5, h7, h8⟩ := h
  rw [(put_T h3 (by omega) hd hp x).2]
  refine ⟨T, S, h1, h2, h3, h4, ⟨h5.1, rgc_upd h5.2.1 hx, h5.2.2⟩, ?_, h8⟩
  show sm (upd (jm_ch N) (sg T (12 * d + p)) x) + (jm_ja N 0 + jm_ja N 1) + jm_lk N = jm_po N + (x - jm_ch N (sg T (12 * d + p))) - jm_to N
  rw [sm_upd _ _ (sg_lt _ _)]
  unfold tot at h7
  grind
theorem emp_eq (N : jm_T) : sX2_emptyJars N = jm_uto (jm_uja N (upd (upd (jm_ja N) 0 0) 1 0)) (jm_to N + (jm_ja N 0 + jm_ja N 1)) := rfl
theorem nq_0 : -(0 : Int32) = 0 := by decide
theorem emp_ng (N : jm_T) : sX2_emptyJars (ng N) = ng (sX2_emptyJars N) := by
  have e1 : ng (sX2_emptyJars N) = jm_uto (jm_uja (ng N) (ngf (upd (upd (jm_ja N) 0 0) 1 0))) (-(jm_to N + (jm_ja N 0 + jm_ja N 1))) := rfl
  rw [e1, ngf_upd, ngf_upd, nq_0, ← nq_add, ← nq_add]
  rfl
theorem emp_K {K : Nat} {N : jm_T} (h : Tst K N) : Tst K (sX2_emptyJars N) := by
  obtain ⟨T, S, h1, h2, h3, h4, h5, h7, h8⟩ := h
  rw [emp_eq]
  have z : -(jm_se N 4).toInt ≤ (0 : Int32).toInt ∧ (0 : Int32).toInt ≤ (jm_se N 4).toInt := by
    have := h5.1.2.2.2.2
    rw [Int32.toInt_zero]
    omega
  refine ⟨T, S, h1, h2, h3, h4, ⟨h5.1, h5.2.1, rgj_upd (rgj_upd h5.2.2 z) z⟩, ?_, h8⟩
  show sm (jm_ch N) + (upd (upd (jm_ja N) 0 0) 1 0 0 + upd (upd (jm_ja N) 0 0) 1 0 1) + jm_lk N = jm_po N - (jm_to N + (jm_ja N 0 + jm_ja N 1))
  rw [pk_us, pk_un (by omega), pk_us]
  unfold tot at h7
  grind
/-! a disc is wiped -/
def wpM (N : jm_T) (d : Nat) : jm_T := jm_uto (jm_uch N (lp_zero (jm_ch N) (rX2_firstIndexOf (nI d)) 12)) (jm_to N + lp_sum (jm_ch N) (rX2_firstIndexOf (nI d)) 12)
def dsm (f : Nat → Int32) (d : Nat) : Int32 := fo (fun a x => a + x) 0 (fun i => f (12 * d + i)) 12
theorem sm_ds (f : Nat → Int32) : sm f = dsm f 0 + dsm f 1 := by
  show fo (fun a x => a + x) 0 f (12 + 12) = _
  rw [fo_split, fo_z]
  show fo (fun a x => a + x) 0 f 12 + fo (fun a x => a + x) 0 (fun i => f (12 + i)) 12 = fo (fun a x => a + x) 0 (fun i => f (12 * 0 + i)) 12 + fo (fun a x => a + x) 0 (fun i => f (12 * 1 + i)) 12
  rw [show (fun i => f (12 * 0 + i)) = f from funext fun i => congrArg f (by omega)]
theorem lps_ds (f : Nat → Int32) {d : Nat} (hd : d < 2) : lp_sum f (rX2_firstIndexOf (nI d)) 12 = dsm f d := by
  rw [fid hd, sum_fo f hd 12 (Nat.le_refl _)]
  rfl
theorem lpz_eq (f : Nat → Int32) {d : Nat} (hd : d < 2) : lp_zero f (rX2_firstIndexOf (nI d)) 12 = fun i => if 12 * d ≤ i ∧ i < 12 * d + 12 then 0 else f i := by
  rw [fid hd, zero_eq f hd 12 (Nat.le_refl _)]
theorem fo_zero : ∀ n, fo (fun a x => a + x) 0 (fun _ => (0 : Int32)) n = 0
  | 0 => rfl
  | n + 1 => by
    show fo (fun a x => a + x) 0 (fun _ => (0 : Int32)) n + 0 = 0
    rw [fo_zero n]
    decide
theorem dsm_z (f : Nat → Int32) {d d' : Nat} (hd : d < 2) (hd' : d' < 2) : dsm (fun i => if 12 * d ≤ i ∧ i < 12 * d + 12 then 0 else f i) d' = if d' = d then 0 else dsm f d' := by
  unfold dsm
  by_cases c : d' = d
  · subst c
    rw [if_pos rfl]
    exact (fo_congr _ 0 12 (fun k hk => if_pos (by omega))).trans (fo_zero 12)
  · rw [if_neg c]
    exact fo_congr _ 0 12 (fun k hk => if_neg (by omega))
theorem wp_ng (N : jm_T) {d : Nat} (hd : d < 2) : wpM (ng N) d = ng (wpM N d) := by
  have e1 : ng (wpM N d) = jm_uto (jm_uch (ng N) (ngf (lp_zero (jm_ch N) (rX2_firstIndexOf (nI d)) 12))) (-(jm_to N + lp_sum (jm_ch N) (rX2_firstIndexOf (nI d)) 12)) := rfl
  have e2 : wpM (ng N) d = jm_uto (jm_uch (ng N) (lp_zero (ngf (jm_ch N)) (rX2_firstIndexOf (nI d)) 12)) (-jm_to N + lp_sum (ngf (jm_ch N)) (rX2_firstIndexOf (nI d)) 12) := rfl
  have e3 : dsm (ngf (jm_ch N)) d = -dsm (jm_ch N) d := fo_neg _ 12
  have e4 : (fun i => if 12 * d ≤ i ∧ i < 12 * d + 12 then 0 else ngf (jm_ch N) i) = ngf (fun i => if 12 * d ≤ i ∧ i < 12 * d + 12 then 0 else jm_ch N i) := by
    funext i
    unfold ngf
    dsimp only
    by_cases c : 12 * d ≤ i ∧ i < 12 * d + 12
    · rw [if_pos c, if_pos c, nq_0]
    · rw [if_neg c, if_neg c]
  rw [e1, e2, lps_ds _ hd, lps_ds _ hd, lpz_eq _ hd, lpz_eq _ hd, e3, nq_add, e4]
theorem wp_K {K : Nat} {N : jm_T} (h : Tst K N) {d : Nat} (hd : d < 2) : Tst K (wpM N d) := by
  obtain ⟨T, S, h1, h2, h3, h4, h5, h7, h8⟩ := h
  unfold wpM
  rw [lps_ds _ hd, lpz_eq _ hd]
  refine ⟨T, S, h1, h2, h3, h4, ⟨h5.1, fun i hi => ?_, h5.2.2⟩, ?_, h8⟩
  · show -99 ≤ (if 12 * d ≤ i ∧ i < 12 * d + 12 then 0 else jm_ch N i).toInt ∧ (if 12 * d ≤ i ∧ i < 12 * d + 12 then 0 else jm_ch N i).toInt ≤ 99
    by_cases c : 12 * d ≤ i ∧ i < 12 * d + 12
    · rw [if_pos c, Int32.toInt_zero]
      omega
    · rw [if_neg c]
      exact h5.2.1 i hi
  · show sm (fun i => if 12 * d ≤ i ∧ i < 12 * d + 12 then 0 else jm_ch N i) + (jm_ja N 0 + jm_ja N 1) + jm_lk N = jm_po N - (jm_to N + dsm (jm_ch N) d)
    unfold tot at h7
    rw [sm_ds] at h7 ⊢
    rw [dsm_z _ hd (by omega), dsm_z _ hd (by omega)]
    rcases (show d = 0 ∨ d = 1 by omega) with e | e <;> subst e
    · rw [if_pos rfl, if_neg (by omega)]
      grind
    · rw [if_neg (by omega), if_pos rfl]
      grind
/-! a setting -/
theorem full_T {N : jm_T} (h : bdd N) : (rX2_fullestJar N).toInt = max (max (jm_ja N 0).toInt (-(jm_ja N 0).toInt)) (max (jm_ja N 1).toInt (-(jm_ja N 1).toInt)) := by
  have r4 := h.1.2.2.2.2
  have j0 := h.2.2 0 (by omega)
  have j1 := h.2.2 1 (by omega)
  have ab : ∀ x : Int32, -2000 ≤ x.toInt ∧ x.toInt ≤ 2000 → (if 0 ≤ x then x else 0 - x).toInt = max x.toInt (-x.toInt) := by
    intro x hx
    by_cases c : 0 ≤ x
    · rw [if_pos c]
      rw [Int32.le_iff_toInt_le, Int32.toInt_zero] at c
      omega
    · rw [if_neg c, jk_subT (by rw [Int32.toInt_zero]; omega) (by rw [Int32.toInt_zero]; omega), Int32.toInt_zero]
      rw [Int32.le_iff_toInt_le, Int32.toInt_zero] at c
      omega
  show (if (if 0 ≤ jm_ja N 0 then jm_ja N 0 else 0 - jm_ja N 0) < (if 0 ≤ jm_ja N 1 then jm_ja N 1 else 0 - jm_ja N 1) then (if 0 ≤ jm_ja N 1 then jm_ja N 1 else 0 - jm_ja N 1) else (if 0 ≤ jm_ja N 0 then jm_ja N 0 else 0 - jm_ja N 0)).toInt = _
  rw [mx_T, ab _ (by omega), ab _ (by omega)]
theorem full_ng {N : jm_T} (h : bdd N) : rX2_fullestJar (ng N) = rX2_fullestJar N := by
  refine Int32.toInt_inj.mp ?_
  rw [full_T h, full_T (bdd_ng h), ja_ng h (by omega), ja_ng h (by omega)]
  omega
def setM (N : jm_T) (i : Nat) (v : Int32) : jm_T := jm_use N (upd (jm_se N) i v)
theorem set_K {K : Nat} {N : jm_T} (h : Tst K N) {i : Nat} (hi : i < 5) {v : Int32} (h1 : szl i ≤ v.toInt) (h2 : v.toInt ≤ szh i) (hf : i = 4 → rX2_fullestJar N ≤ v) : Tst K (setM N i v) := by
  obtain ⟨T, S, k1, k2, k3, k4, k5, k7, k8⟩ := h
  refine ⟨T, S, k1, k2, k3, k4, ⟨?_, k5.2.1, ?_⟩, k7, k8⟩
  · obtain ⟨r0, r1, r2, r3, r4⟩ := k5.1
    rcases (show i = 0 ∨ i = 1 ∨ i = 2 ∨ i = 3 ∨ i = 4 by omega) with q | q | q | q | q <;> subst q
    · exact ⟨⟨h1, h2⟩, r1, r2, r3, r4⟩
    · exact ⟨r0, ⟨h1, h2⟩, r2, r3, r4⟩
    · exact ⟨r0, r1, ⟨h1, h2⟩, r3, r4⟩
    · exact ⟨r0, r1, r2, ⟨h1, h2⟩, r4⟩
    · exact ⟨r0, r1, r2, r3, ⟨h1, h2⟩⟩
  · intro j hj
    show -(upd (jm_se N) i v 4).toInt ≤ (jm_ja N j).toInt ∧ (jm_ja N j).toInt ≤ (upd (jm_se N) i v 4).toInt
    by_cases c : i = 4
    · subst c
      have hf := hf rfl
      rw [Int32.le_iff_toInt_le, full_T k5] at hf
      rw [pk_us]
      rcases (show j = 0 ∨ j = 1 by omega) with e | e <;> subst e <;> omega
    · rw [pk_un (fun z => c z.symm)]
      exact k5.2.2 j hj
theorem set_ng (N : jm_T) (i : Nat) (v : Int32) : setM (ng N) i v = ng (setM N i v) := rfl
theorem nI5 {i : Nat} (hi : i < 5) : ¬ nI i < 0 ∧ nI i < 5 ∧ (nI i).toNatClampNeg = i ∧ (nI i = 4 ↔ i = 4) := by
  rcases (show i = 0 ∨ i = 1 ∨ i = 2 ∨ i = 3 ∨ i = 4 by omega) with q | q | q | q | q <;> subst q <;> decide
/-- a setting within its range -/
theorem set_at {N : jm_T} {Hs : jh_T} {F : jf_T} {i : Nat} (hi : i < 5) {v : Int32} (h1 : szl i ≤ v.toInt) (h2 : v.toInt ≤ szh i) : (i = 4 ∧ ¬ rX2_fullestJar N ≤ v ∧ rX4_set N Hs F (nI i) v = -1000005 ∧ sX4_set_1 N Hs F (nI i) v = N ∧ sX4_set_2 N Hs F (nI i) v = Hs ∧ sX4_set_3 N Hs F (nI i) v = F) ∨ ((i = 4 → rX2_fullestJar N ≤ v) ∧ rX4_set N Hs F (nI i) v = jm_se N i ∧ sX4_set_1 N Hs F (nI i) v = setM N i v ∧ sX4_set_2 N Hs F (nI i) v = jh_rec Hs ∧ sX4_set_3 N Hs F (nI i) v = jf_u F (jh_ix Hs).toNatClampNeg N) := by
  obtain ⟨a1, a2, a3, a4⟩ := nI5 hi
  have b1 : ¬ v < jz_lo i := by rw [Int32.lt_iff_toInt_lt, jz_lT i hi]; omega
  have b2 : v ≤ jz_hi i := by rw [Int32.le_iff_toInt_le, jz_hT i hi]; omega
  unfold rX4_set sX4_set_1 sX4_set_2 sX4_set_3
  dsimp only
  simp only [if_neg a1, if_pos a2, a3, if_neg b1, if_pos b2]
  by_cases c : i = 4
  · have c4 : nI i = 4 := a4.mpr c
    simp only [if_pos c4]
    by_cases c2 : rX2_fullestJar N ≤ v
    · simp only [if_pos c2]
      refine Or.inr ⟨fun _ => c2, ?_, ?_, ?_, ?_⟩ <;> first | rfl | trivial
    · simp only [if_neg c2]
      refine Or.inl ⟨c, c2, ?_, ?_, ?_, ?_⟩ <;> first | rfl | trivial
  · have c4 : ¬ nI i = 4 := fun z => c (a4.mp z)
    simp only [if_neg c4]
    refine Or.inr ⟨fun z => absurd z c, ?_, ?_, ?_, ?_⟩ <;> first | rfl | trivial
/-! ===== what there is ===== -/
theorem sec_at {N : jm_T} {T : Nat} (hT : jm_tu N = nI T) (h6 : T < 1000000) {d p : Nat} (hd : d < 2) (hp : p < 12) : rX4_sector N (nI d) (nI p) = jm_ch N (sg T (12 * d + p)) := by
  unfold rX4_sector
  dsimp only
  rw [nod hd, npl hp, if_pos rfl, if_pos rfl, hT, ixd hd hp h6]
theorem sec_ng {N : jm_T} {T : Nat} (hT : jm_tu N = nI T) (h6 : T < 1000000) {d p : Nat} (hd : d < 2) (hp : p < 12) : rX4_sector (ng N) (nI d) (nI p) = -rX4_sector N (nI d) (nI p) := by
  rw [sec_at hT h6 hd hp, sec_at (N := ng N) hT h6 hd hp]
  rfl
theorem jar_at (N : jm_T) {j : Nat} (hj : j < 2) : rX4_jar N (nI j) 0 = jm_ja N j ∧ rX4_jar N (nI j) 1 = jm_tk N j ∧ rX4_jar N (nI j) 2 = jm_lj N j := by
  rcases (show j = 0 ∨ j = 1 by omega) with e | e <;> subst e <;> exact ⟨rfl, rfl, rfl⟩
theorem disc_at (N : jm_T) {d : Nat} (hd : d < 2) : rX4_disc N (nI d) 0 = dsm (jm_ch N) d ∧ rX4_disc N (nI d) 1 = lp_sgn (jm_ch N) (rX2_firstIndexOf (nI d)) 1 12 ∧ rX4_disc N (nI d) 2 = lp_sgn (jm_ch N) (rX2_firstIndexOf (nI d)) (-1) 12 ∧ rX4_disc N (nI d) 3 = lp_max (jm_ch N) (rX2_firstIndexOf (nI d)) 12 ∧ rX4_disc N (nI d) 4 = lp_min (jm_ch N) (rX2_firstIndexOf (nI d)) 12 := by
  unfold rX4_disc
  dsimp only
  simp only [nod hd, if_pos, ← lps_ds _ hd]
  have n : ∀ {z : Prop} [Decidable z], ¬ z → ∀ (x y : Int32), (if z then x else y) = y := fun h _ _ => if_neg h
  exact ⟨trivial, n (by decide) _ _, (n (by decide) _ _).trans (n (by decide) _ _), (n (by decide) _ _).trans ((n (by decide) _ _).trans (n (by decide) _ _)), (n (by decide) _ _).trans ((n (by decide) _ _).trans ((n (by decide) _ _).trans (n (by decide) _ _)))⟩
theorem coa_at (N : jm_T) : rX2_chargeOfAll N = sm (jm_ch N) + (jm_ja N 0 + jm_ja N 1) := by
  have e : rX2_chargeOfAll N = ((lp_sum (jm_ch N) (rX2_firstIndexOf (nI 0)) 12 + lp_sum (jm_ch N) (rX2_firstIndexOf (nI 1)) 12) + jm_ja N 0) + jm_ja N 1 := rfl
  rw [e, lps_ds _ (by omega), lps_ds _ (by omega), sm_ds, Int32.add_assoc]
theorem coa_ng (N : jm_T) : rX2_chargeOfAll (ng N) = -rX2_chargeOfAll N := by
  have e : sm (ngf (jm_ch N)) = -sm (jm_ch N) := fo_neg _ 24
  rw [coa_at, coa_at]
  show sm (ngf (jm_ch N)) + (-jm_ja N 0 + -jm_ja N 1) = _
  rw [e, nq_add, nq_add]
theorem cnt_se (N : jm_T) (Hs : jh_T) (P : jp_T) {w : Nat} (hw : w < 5) : rX4_count N Hs P (nI w) = jm_se N w := by
  rcases (show w = 0 ∨ w = 1 ∨ w = 2 ∨ w = 3 ∨ w = 4 by omega) with q | q | q | q | q <;> subst q <;> rfl
theorem cnt_hi (N : jm_T) (Hs : jh_T) (P : jp_T) : rX4_count N Hs P 5 = jm_tu N ∧ rX4_count N Hs P 6 = jm_sp N ∧ rX4_count N Hs P 7 = jm_rv N ∧ rX4_count N Hs P 8 = rX2_sign N ∧ rX4_count N Hs P 9 = rX2_chargeOfAll N ∧ rX4_count N Hs P 10 = jm_lk N ∧ rX4_count N Hs P 11 = jm_po N ∧ rX4_count N Hs P 12 = jm_to N ∧ rX4_count N Hs P 14 = jh_sz Hs := ⟨rfl, rfl, rfl, rfl, rfl, rfl, rfl, rfl, rfl⟩
theorem spk_at {N : jm_T} {S : Nat} (hS : jm_sp N = nI S) (h6 : S < 1000000) {k w : Nat} (hk : k < 8) (hw : w < 3) : rX4_spark N (nI k) (nI w) = if k < S then jm_lo N (3 * ((S - 1 - k) % 8) + w) else -1000006 := by
  have a1 : ¬ nI k < 0 := by rw [Int32.lt_iff_toInt_lt, nI_toInt (by omega), Int32.toInt_zero]; omega
  have a2 : ¬ nI w < 0 := by rw [Int32.lt_iff_toInt_lt, nI_toInt (by omega), Int32.toInt_zero]; omega
  have a3 : nI w < 3 := by rw [Int32.lt_iff_toInt_lt, nI_toInt (by omega), show (3 : Int32).toInt = 3 by decide]; omega
  have a4 : ¬ (8 : Int32) ≤ nI k := by rw [Int32.le_iff_toInt_le, nI_toInt (by omega), show (8 : Int32).toInt = 8 by decide]; omega
  unfold rX4_spark
  dsimp only
  rw [if_neg a1, if_neg a2, if_pos a3, if_neg a4, hS]
  by_cases c : k < S
  · have c1 : nI k < nI S := by rw [Int32.lt_iff_toInt_lt, nI_toInt (by omega), nI_toInt (by omega)]; omega
    have e1 : nI S - 1 - nI k = nI (S - 1 - k) := by rw [show (1 : Int32) = nI 1 from rfl, pk_sub (by omega), pk_sub (by omega)]
    obtain ⟨g0, g1, g2⟩ := lg0 (S := S - 1 - k) (by omega)
    rw [if_pos c1, if_pos c, e1]
    rcases (show w = 0 ∨ w = 1 ∨ w = 2 by omega) with e | e | e <;> subst e
    · rw [show rX2_logIndexOf (nI (S - 1 - k)) + nI 0 = rX2_logIndexOf (nI (S - 1 - k)) from Int32.add_zero _, g0]
      rfl
    · rw [show (rX2_logIndexOf (nI (S - 1 - k)) + nI 1).toNatClampNeg = _ from g1]
    · rw [show (rX2_logIndexOf (nI (S - 1 - k)) + nI 2).toNatClampNeg = _ from g2]
  · have c1 : ¬ nI k < nI S := by rw [Int32.lt_iff_toInt_lt, nI_toInt (by omega), nI_toInt (by omega)]; omega
    rw [if_neg c1, if_neg c]
theorem spk_8 (N : jm_T) : rX4_spark N 8 0 = -1000006 := rfl
