/-! ===== deeds ===== -/
theorem ixd {d p T : Nat} (hd : d < 2) (hp : p < 12) (hT : T < 1000000) : (rX2_indexOf (nI d) (nI p) (nI T)).toNatClampNeg = sg T (12 * d + p) := by
  rcases (show d = 0 ∨ d = 1 by omega) with e | e <;> subst e
  · rw [show 12 * 0 + p = p by omega]
    exact ix0 hp hT
  · exact ix1 hp hT
theorem celld {d p : Nat} (hd : d < 2) (hp : p < 12) : (rX5_cell (nI d) (nI p)).toNatClampNeg = 13 + (12 * d + p) := by
  have e : rX5_cell (nI d) (nI p) = nI (13 + 12 * d + p) := by
    show 13 + 12 * nI d + nI p = _
    rw [show (12 : Int32) = nI 12 from rfl, pk_mul, show (13 : Int32) = nI 13 from rfl, nI_add, nI_add]
  rw [e, jk_cl (by omega)]
  omega
theorem st_put {T S : Nat} {N : jm_T} {X : jx_T} (h : mrF T S N (jx_al X)) (hT : T < 1000000) {d p : Nat} (hd : d < 2) (hp : p < 12) {z : Int32} (hz : -99 ≤ z.toInt ∧ z.toInt ≤ 99) : mrF T S (sX2_putCharge N (nI d) (nI p) z) (jx_al (sX5_touches X (nI d) (nI p) z)) ∧ jx_al X (rX5_cell (nI d) (nI p)).toNatClampNeg = rX2_putCharge N (nI d) (nI p) z := by
  obtain ⟨⟨h1, h2, h3, h4, h5, h6, h7, h8, h9⟩, e7, e8⟩ := h
  have ei := ixd hd hp hT
  rw [← h1.1] at ei
  have ec := celld hd hp
  have eN : sX2_putCharge N (nI d) (nI p) z = jm_upo (jm_uch N (upd (jm_ch N) (sg T (12 * d + p)) z)) (jm_po N + (z - jm_ch N (sg T (12 * d + p)))) := by
    unfold sX2_putCharge
    dsimp only
    rw [ei]
  have eX : jx_al (sX5_touches X (nI d) (nI p) z) = upd (upd (jx_al X) 10 (jm_po N + (z - jm_ch N (sg T (12 * d + p))))) (13 + (12 * d + p)) z := by
    unfold sX5_touches
    dsimp only
    rw [row_al, ec, h4 _ (by omega), h3.2.2.2.1]
  rw [eN, eX]
  refine ⟨⟨⟨h1, mrs_off (mrs_off h2 (by omega)) (by omega), ⟨?_, ?_, ?_, ?_, ?_⟩, mrc_upd (mrc_off h4 (by omega)) (by omega) z, mrj_off (mrj_off h5 (by omega)) (by omega), mrl_off (mrl_off h6 (by omega) (by omega)) (by omega) (by omega), h7, rgc_upd h8 hz, h9⟩, ?_, ?_⟩, ?_⟩
  · rw [pk_un (by omega), pk_un (by omega)]; exact h3.1
  · rw [pk_un (by omega), pk_un (by omega)]; exact h3.2.1
  · rw [pk_un (by omega), pk_un (by omega)]; exact h3.2.2.1
  · rw [pk_un (by omega), pk_us]; rfl
  · rw [pk_un (by omega), pk_un (by omega)]; exact h3.2.2.2.2
  · rw [pk_un (by omega), pk_un (by omega)]; exact e7
  · rw [pk_un (by omega), pk_un (by omega)]; exact e8
  · rw [ec, h4 _ (by omega)]
    unfold rX2_putCharge
    dsimp only
    rw [ei]
theorem st_dis {T S : Nat} {N : jm_T} {X : jx_T} (h : mrF T S N (jx_al X)) : mrF T S (sX2_emptyJars N) (jx_al (sX5_discharges X)) ∧ rX5_discharges X = rX2_emptyJars N := by
  have hde := dif_eq h.1
  obtain ⟨⟨h1, h2, h3, h4, h5, h6, h7, h8, h9⟩, e7, e8⟩ := h
  have a0 : jx_al X 37 = jm_ja N 0 := (h5 0 (by omega)).1
  have a1 : jx_al X 38 = jm_ja N 1 := (h5 1 (by omega)).1
  have eX : jx_al (sX5_discharges X) = upd (upd (upd (jx_al X) 11 (jm_to N + (jm_ja N 0 + jm_ja N 1))) 37 0) 38 0 := by
    unfold sX5_discharges
    dsimp only
    rw [row_al, a0, a1, h3.2.2.2.2]
  have eN : sX2_emptyJars N = jm_uto (jm_uja N (upd (upd (jm_ja N) 0 0) 1 0)) (jm_to N + (jm_ja N 0 + jm_ja N 1)) := rfl
  rw [eX, eN]
  refine ⟨⟨⟨h1, mrs_off (mrs_off (mrs_off h2 (by omega)) (by omega)) (by omega), ⟨?_, ?_, ?_, ?_, ?_⟩, mrc_off (mrc_off (mrc_off h4 (by omega)) (by omega)) (by omega), ?_, mrl_off (mrl_off (mrl_off h6 (by omega) (by omega)) (by omega) (by omega)) (by omega) (by omega), h7, h8, ?_⟩, ?_, ?_⟩, hde⟩
  · rw [pk_un (by omega), pk_un (by omega), pk_un (by omega)]; exact h3.1
  · rw [pk_un (by omega), pk_un (by omega), pk_un (by omega)]; exact h3.2.1
  · rw [pk_un (by omega), pk_un (by omega), pk_un (by omega)]; exact h3.2.2.1
  · rw [pk_un (by omega), pk_un (by omega), pk_un (by omega)]; exact h3.2.2.2.1
  · rw [pk_un (by omega), pk_un (by omega), pk_us]; rfl
  · intro j hj
    refine ⟨?_, ?_, ?_⟩
    · rcases (show j = 0 ∨ j = 1 by omega) with e | e <;> subst e
      · rfl
      · rfl
    · rw [pk_un (by omega), pk_un (by omega), pk_un (by omega)]
      exact (h5 j hj).2.1
    · rw [pk_un (by omega), pk_un (by omega), pk_un (by omega)]
      exact (h5 j hj).2.2
  · intro j hj
    have hh := h7.2.2.2.2
    rcases (show j = 0 ∨ j = 1 by omega) with e | e <;> subst e
    · show -(jm_se N 4).toInt ≤ (upd (upd (jm_ja N) 0 0) 1 0 0).toInt ∧ (upd (upd (jm_ja N) 0 0) 1 0 0).toInt ≤ (jm_se N 4).toInt
      rw [pk_un (by omega), pk_us, Int32.toInt_zero]
      omega
    · show -(jm_se N 4).toInt ≤ (upd (upd (jm_ja N) 0 0) 1 0 1).toInt ∧ (upd (upd (jm_ja N) 0 0) 1 0 1).toInt ≤ (jm_se N 4).toInt
      rw [pk_us, Int32.toInt_zero]
      omega
  · rw [pk_un (by omega), pk_un (by omega), pk_un (by omega)]; exact e7
  · rw [pk_un (by omega), pk_un (by omega), pk_un (by omega)]; exact e8
/-! ===== discs ===== -/
theorem fid {d : Nat} (hd : d < 2) : rX2_firstIndexOf (nI d) = nI (12 * d) := by
  rcases (show d = 0 ∨ d = 1 by omega) with e | e <;> subst e <;> rfl
theorem ldz {d k : Nat} (hd : d < 2) (hk : k < 12) : (nI (12 * d) + nI k).toNatClampNeg = 12 * d + k := by rw [nI_add, jk_cl (by omega)]
/-- a disc, by its places, and as the program has it -/
theorem disc_fo {T S : Nat} {N : jm_T} {f : Nat → Int32} (h : mrA T S N f) {d : Nat} (hd : d < 2) {α : Type} {op : α → Int32 → α} (hc : ∀ a x y, op (op a x) y = op (op a y) x) (z : α) : fo op z (fun p => f (13 + (12 * d + p))) 12 = fo op z (fun i => jm_ch N (12 * d + i)) 12 := by
  have hK : ∀ K, (∀ p, p < 12 → sg T (12 * d + p) = 12 * d + (p + K) % 12) → fo op z (fun p => f (13 + (12 * d + p))) 12 = fo op z (fun i => jm_ch N (12 * d + i)) 12 := by
    intro K hs
    rw [fo_congr op z (w := fun p => jm_ch N (12 * d + (p + K) % 12)) 12 (fun p hp => by rw [h.2.2.2.1 _ (by omega), hs p hp])]
    exact fo_perm hc z (fun i => jm_ch N (12 * d + i)) (fun p => (p + K) % 12) 12 (pm12 K)
  rcases (show d = 0 ∨ d = 1 by omega) with e | e <;> subst e
  · refine hK (11 * T) (fun p hp => ?_)
    unfold sg
    rw [if_pos (by omega)]
    omega
  · refine hK T (fun p hp => ?_)
    unfold sg
    rw [if_neg (by omega)]
    omega
theorem ds_fo (f : Nat → Int32) {d : Nat} (hd : d < 2) : ∀ k, k ≤ 12 → lx_ds f (nI d) k = fo (fun a x => a + x) 0 (fun p => f (13 + (12 * d + p))) k
  | 0, _ => rfl
  | k + 1, hk => by
    rw [lx_ds, ds_fo f hd k (by omega), celld hd (by omega)]
    rfl
theorem da_fo (f : Nat → Int32) {d : Nat} (hd : d < 2) : ∀ k, k ≤ 12 → lx_da f (nI d) k = fo (fun a x => a + (if x ≤ 0 then 0 else 1)) 0 (fun p => f (13 + (12 * d + p))) k
  | 0, _ => rfl
  | k + 1, hk => by
    rw [lx_da, da_fo f hd k (by omega), celld hd (by omega)]
    rfl
theorem db_fo (f : Nat → Int32) {d : Nat} (hd : d < 2) : ∀ k, k ≤ 12 → lx_db f (nI d) k = fo (fun a x => a + (if 0 ≤ x then 0 else 1)) 0 (fun p => f (13 + (12 * d + p))) k
  | 0, _ => rfl
  | k + 1, hk => by
    rw [lx_db, db_fo f hd k (by omega), celld hd (by omega)]
    rfl
theorem mxo_le (a x : Int32) : (if x ≤ a then a else x) = mxo a x := by
  unfold mxo
  by_cases c : x ≤ a
  · rw [if_pos c, if_neg (Int32.not_lt.mpr c)]
  · rw [if_neg c, if_pos (Int32.not_le.mp c)]
theorem mno_le (a x : Int32) : (if a ≤ x then a else x) = mno a x := by
  unfold mno
  by_cases c : a ≤ x
  · rw [if_pos c, if_neg (Int32.not_lt.mpr c)]
  · rw [if_neg c, if_pos (Int32.not_le.mp c)]
theorem dg_fo (f : Nat → Int32) {d : Nat} (hd : d < 2) : ∀ k, k ≤ 12 → lx_dg f (nI d) k = fo mxo (-99) (fun p => f (13 + (12 * d + p))) k
  | 0, _ => rfl
  | k + 1, hk => by
    rw [lx_dg, dg_fo f hd k (by omega), celld hd (by omega), mxo_le]
    rfl
theorem dl_fo (f : Nat → Int32) {d : Nat} (hd : d < 2) : ∀ k, k ≤ 12 → lx_dl f (nI d) k = fo mno 99 (fun p => f (13 + (12 * d + p))) k
  | 0, _ => rfl
  | k + 1, hk => by
    rw [lx_dl, dl_fo f hd k (by omega), celld hd (by omega), mno_le]
    rfl
theorem max_fo (f : Nat → Int32) {d : Nat} (hd : d < 2) : ∀ k, k ≤ 12 → lp_max f (nI (12 * d)) k = fo mxo (-99) (fun i => f (12 * d + i)) k
  | 0, _ => rfl
  | k + 1, hk => by
    rw [lp_max, max_fo f hd k (by omega), ldz hd (by omega)]
    rfl
theorem min_fo (f : Nat → Int32) {d : Nat} (hd : d < 2) : ∀ k, k ≤ 12 → lp_min f (nI (12 * d)) k = fo mno 99 (fun i => f (12 * d + i)) k
  | 0, _ => rfl
  | k + 1, hk => by
    rw [lp_min, min_fo f hd k (by omega), ldz hd (by omega)]
    rfl
theorem sg1_if (x a : Int32) : (if rJ6_signum_0f7a4 x = 1 then a + 1 else a) = a + (if x ≤ 0 then 0 else 1) := by
  rw [sig_eq]
  by_cases c : x < 0
  · rw [if_pos c, if_neg (by decide), if_pos (Int32.le_of_lt c), Int32.add_zero]
  · rw [if_neg c]
    by_cases c2 : x = 0
    · rw [if_pos c2, if_neg (by decide), if_pos (by rw [c2]; exact Int32.le_refl _), Int32.add_zero]
    · rw [if_neg c2, if_pos rfl, if_neg]
      intro q
      exact c2 (Int32.le_antisymm q (Int32.not_lt.mp c))
theorem sgm_if (x a : Int32) : (if rJ6_signum_0f7a4 x = -1 then a + 1 else a) = a + (if 0 ≤ x then 0 else 1) := by
  rw [sig_eq]
  by_cases c : x < 0
  · rw [if_pos c, if_pos rfl, if_neg (Int32.not_le.mpr c)]
  · rw [if_neg c, if_pos (Int32.not_lt.mp c), Int32.add_zero]
    by_cases c2 : x = 0
    · rw [if_pos c2, if_neg (by decide)]
    · rw [if_neg c2, if_neg (by decide)]
theorem sgn1_fo (f : Nat → Int32) {d : Nat} (hd : d < 2) : ∀ k, k ≤ 12 → lp_sgn f (nI (12 * d)) 1 k = fo (fun a x => a + (if x ≤ 0 then 0 else 1)) 0 (fun i => f (12 * d + i)) k
  | 0, _ => rfl
  | k + 1, hk => by
    rw [lp_sgn, sgn1_fo f hd k (by omega), ldz hd (by omega), sg1_if]
    rfl
theorem sgnm_fo (f : Nat → Int32) {d : Nat} (hd : d < 2) : ∀ k, k ≤ 12 → lp_sgn f (nI (12 * d)) (-1) k = fo (fun a x => a + (if 0 ≤ x then 0 else 1)) 0 (fun i => f (12 * d + i)) k
  | 0, _ => rfl
  | k + 1, hk => by
    rw [lp_sgn, sgnm_fo f hd k (by omega), ldz hd (by omega), sgm_if]
    rfl
theorem sum_fo (f : Nat → Int32) {d : Nat} (hd : d < 2) : ∀ k, k ≤ 12 → lp_sum f (nI (12 * d)) k = fo (fun a x => a + x) 0 (fun i => f (12 * d + i)) k := fun k hk => lp_sum_fo f (12 * d) (by omega) k hk
theorem st_disc {T S : Nat} {N : jm_T} {X : jx_T} (h : mrA T S N (jx_al X)) {d : Nat} (hd : d < 2) : lx_ds (jx_al X) (nI d) 12 = lp_sum (jm_ch N) (rX2_firstIndexOf (nI d)) 12 ∧ lx_da (jx_al X) (nI d) 12 = lp_sgn (jm_ch N) (rX2_firstIndexOf (nI d)) 1 12 ∧ lx_db (jx_al X) (nI d) 12 = lp_sgn (jm_ch N) (rX2_firstIndexOf (nI d)) (-1) 12 ∧ lx_dg (jx_al X) (nI d) 12 = lp_max (jm_ch N) (rX2_firstIndexOf (nI d)) 12 ∧ lx_dl (jx_al X) (nI d) 12 = lp_min (jm_ch N) (rX2_firstIndexOf (nI d)) 12 := by
  rw [fid hd, ds_fo _ hd 12 (by omega), da_fo _ hd 12 (by omega), db_fo _ hd 12 (by omega), dg_fo _ hd 12 (by omega), dl_fo _ hd 12 (by omega), sum_fo _ hd 12 (by omega), sgn1_fo _ hd 12 (by omega), sgnm_fo _ hd 12 (by omega), max_fo _ hd 12 (by omega), min_fo _ hd 12 (by omega)]
  exact ⟨disc_fo h hd (op := fun a x => a + x) (fun a x y => addrc a x y) 0, disc_fo h hd (op := fun a x => a + (if x ≤ 0 then 0 else 1)) (fun a x y => addrc a (if x ≤ 0 then 0 else 1) (if y ≤ 0 then 0 else 1)) 0, disc_fo h hd (op := fun a x => a + (if 0 ≤ x then 0 else 1)) (fun a x y => addrc a (if 0 ≤ x then 0 else 1) (if 0 ≤ y then 0 else 1)) 0, disc_fo h hd mxo_c (-99), disc_fo h hd mno_c 99⟩
/-! ===== a disc is wiped ===== -/
theorem zero_eq (f : Nat → Int32) {d : Nat} (hd : d < 2) : ∀ k, k ≤ 12 → lp_zero f (nI (12 * d)) k = fun i => if 12 * d ≤ i ∧ i < 12 * d + k then 0 else f i
  | 0, _ => by
    funext i
    show f i = _
    rw [if_neg (by omega)]
  | k + 1, hk => by
    rw [lp_zero, zero_eq f hd k (by omega), ldz hd (by omega)]
    funext i
    unfold upd
    by_cases e : i = 12 * d + k
    · rw [if_pos e, if_pos (by omega)]
    · rw [if_neg e]
      show (if 12 * d ≤ i ∧ i < 12 * d + k then 0 else f i) = (if 12 * d ≤ i ∧ i < 12 * d + (k + 1) then 0 else f i)
      by_cases e2 : 12 * d ≤ i ∧ i < 12 * d + k
      · rw [if_pos e2, if_pos (by omega)]
      · rw [if_neg e2, if_neg (by omega)]
theorem wp_eq (f : Nat → Int32) {d : Nat} (hd : d < 2) : ∀ k, k ≤ 12 → lx_wp f (nI d) k = fun j => if j = 11 then fo (fun a x => a + x) (f 11) (fun p => f (13 + (12 * d + p))) k else if 13 + 12 * d ≤ j ∧ j < 13 + 12 * d + k then 0 else f j
  | 0, _ => by
    funext j
    show f j = _
    by_cases e : j = 11
    · rw [if_pos e, e]
      rfl
    · rw [if_neg e, if_neg (by omega)]
  | k + 1, hk => by
    have ih := wp_eq f hd k (by omega)
    have hv : lx_wp f (nI d) k (13 + (12 * d + k)) = f (13 + (12 * d + k)) := by
      rw [ih]
      show (if 13 + (12 * d + k) = 11 then _ else if 13 + 12 * d ≤ 13 + (12 * d + k) ∧ 13 + (12 * d + k) < 13 + 12 * d + k then _ else f (13 + (12 * d + k))) = _
      rw [if_neg (by omega), if_neg (by omega)]
    have h11 : lx_wp f (nI d) k 11 = fo (fun a x => a + x) (f 11) (fun p => f (13 + (12 * d + p))) k := by rw [ih]; rfl
    rw [lx_wp, celld hd (by omega), hv, h11]
    funext j
    unfold upd
    by_cases e : j = 13 + (12 * d + k)
    · rw [if_pos e, if_neg (by omega), if_pos (by omega)]
    · rw [if_neg e]
      by_cases e1 : j = 11
      · rw [if_pos e1, if_pos e1]
        rfl
      · rw [if_neg e1, if_neg e1, ih]
        show (if j = 11 then _ else if 13 + 12 * d ≤ j ∧ j < 13 + 12 * d + k then 0 else f j) = _
        rw [if_neg e1]
        by_cases e2 : 13 + 12 * d ≤ j ∧ j < 13 + 12 * d + k
        · rw [if_pos e2, if_pos (by omega)]
        · rw [if_neg e2, if_neg (by omega)]
theorem wn_fo (f : Nat → Int32) {d : Nat} (hd : d < 2) : ∀ k, k ≤ 12 → lx_wn f (nI d) k = fo (fun a x => a + (if x = 0 then 0 else 1)) 0 (fun p => f (13 + (12 * d + p))) k
  | 0, _ => rfl
  | k + 1, hk => by
    have hv : lx_wp f (nI d) k (13 + (12 * d + k)) = f (13 + (12 * d + k)) := by
      rw [wp_eq f hd k (by omega)]
      show (if 13 + (12 * d + k) = 11 then _ else if 13 + 12 * d ≤ 13 + (12 * d + k) ∧ 13 + (12 * d + k) < 13 + 12 * d + k then _ else f (13 + (12 * d + k))) = _
      rw [if_neg (by omega), if_neg (by omega)]
    rw [lx_wn, wn_fo f hd k (by omega), celld hd (by omega), hv]
    rfl
theorem add4 (a b x y : Int32) : (a + x) + (b + y) = (a + b) + (x + y) := by
  rw [Int32.add_assoc, ← Int32.add_assoc x, Int32.add_comm x b, Int32.add_assoc b, ← Int32.add_assoc]
theorem cnt_fo (v : Nat → Int32) : ∀ k, fo (fun a x => a + (if x ≤ 0 then 0 else 1)) 0 v k + fo (fun a x => a + (if 0 ≤ x then 0 else 1)) 0 v k = fo (fun a x => a + (if x = 0 then (0 : Int32) else 1)) 0 v k
  | 0 => rfl
  | k + 1 => by
    show (fo (fun a x => a + (if x ≤ 0 then 0 else 1)) 0 v k + (if v k ≤ 0 then 0 else 1)) + (fo (fun a x => a + (if 0 ≤ x then 0 else 1)) 0 v k + (if 0 ≤ v k then 0 else 1)) = fo (fun a x => a + (if x = 0 then (0 : Int32) else 1)) 0 v k + (if v k = 0 then (0 : Int32) else 1)
    rw [add4, cnt_fo v k]
    congr 1
    by_cases c : v k = 0
    · rw [c]
      rfl
    · rw [if_neg c]
      by_cases c1 : v k ≤ 0
      · rw [if_pos c1, if_neg (fun q => c (Int32.le_antisymm c1 q))]
        rfl
      · rw [if_neg c1, if_pos (Int32.le_of_lt (Int32.not_le.mp c1))]
        rfl
theorem st_wipe {T S : Nat} {N : jm_T} {f : Nat → Int32} (h : mrF T S N f) {d : Nat} (hd : d < 2) : mrF T S (jm_uto (jm_uch N (lp_zero (jm_ch N) (rX2_firstIndexOf (nI d)) 12)) (jm_to N + lp_sum (jm_ch N) (rX2_firstIndexOf (nI d)) 12)) (lx_wp f (nI d) 12) ∧ lx_wn f (nI d) 12 = lp_sgn (jm_ch N) (rX2_firstIndexOf (nI d)) 1 12 + lp_sgn (jm_ch N) (rX2_firstIndexOf (nI d)) (-1) 12 := by
  rw [fid hd, zero_eq _ hd 12 (by omega), wp_eq _ hd 12 (by omega), wn_fo _ hd 12 (by omega), sum_fo _ hd 12 (by omega), sgn1_fo _ hd 12 (by omega), sgnm_fo _ hd 12 (by omega), cnt_fo]
  refine ⟨?_, disc_fo h.1 hd (op := fun a x => a + (if x = 0 then (0 : Int32) else 1)) (fun a x y => addrc a (if x = 0 then (0 : Int32) else 1) (if y = 0 then (0 : Int32) else 1)) 0⟩
  have hs : fo (fun a x => a + x) (f 11) (fun p => f (13 + (12 * d + p))) 12 = jm_to N + fo (fun a x => a + x) 0 (fun i => jm_ch N (12 * d + i)) 12 := by
    rw [disc_fo h.1 hd (op := fun a x => a + x) (fun a x y => addrc a x y) (f 11), h.1.2.2.1.2.2.2.2]
    have := fo_add (jm_to N) 0 (fun i => jm_ch N (12 * d + i)) 12
    rw [Int32.add_zero] at this
    exact this
  rw [hs]
  obtain ⟨⟨h1, h2, h3, h4, h5, h6, h7, h8, h9⟩, e7, e8⟩ := h
  have off : ∀ j, j ≠ 11 → (j < 13 ∨ 37 ≤ j) → (fun j => if j = 11 then jm_to N + fo (fun a x => a + x) 0 (fun i => jm_ch N (12 * d + i)) 12 else if 13 + 12 * d ≤ j ∧ j < 13 + 12 * d + 12 then 0 else f j) j = f j := by
    intro j q1 q2
    show (if j = 11 then _ else if 13 + 12 * d ≤ j ∧ j < 13 + 12 * d + 12 then 0 else f j) = f j
    rw [if_neg q1, if_neg (by omega)]
  refine ⟨⟨h1, fun i hi => (off i (by omega) (by omega)).trans (h2 i hi), ⟨(off 5 (by omega) (by omega)).trans h3.1, (off 6 (by omega) (by omega)).trans h3.2.1, (off 9 (by omega) (by omega)).trans h3.2.2.1, (off 10 (by omega) (by omega)).trans h3.2.2.2.1, rfl⟩, ?_, fun j hj => ⟨(off _ (by omega) (by omega)).trans (h5 j hj).1, (off _ (by omega) (by omega)).trans (h5 j hj).2.1, (off _ (by omega) (by omega)).trans (h5 j hj).2.2⟩, ⟨(off 12 (by omega) (by omega)).trans h6.1, fun k hk w hw => (off _ (by omega) (by omega)).trans (h6.2 k hk w hw)⟩, h7, ?_, h9⟩, (off 7 (by omega) (by omega)).trans e7, (off 8 (by omega) (by omega)).trans e8⟩
  · intro c hc
    show (if 13 + c = 11 then _ else if 13 + 12 * d ≤ 13 + c ∧ 13 + c < 13 + 12 * d + 12 then 0 else f (13 + c)) = (if 12 * d ≤ sg T c ∧ sg T c < 12 * d + 12 then 0 else jm_ch N (sg T c))
    rw [if_neg (by omega)]
    have hiff : (12 * d ≤ sg T c ∧ sg T c < 12 * d + 12) ↔ (13 + 12 * d ≤ 13 + c ∧ 13 + c < 13 + 12 * d + 12) := by
      unfold sg
      split
      · omega
      · omega
    by_cases e : 13 + 12 * d ≤ 13 + c ∧ 13 + c < 13 + 12 * d + 12
    · rw [if_pos e, if_pos (hiff.mpr e)]
    · rw [if_neg e, if_neg (fun q => e (hiff.mp q))]
      exact h4 c hc
  · intro i hi
    show -99 ≤ (if 12 * d ≤ i ∧ i < 12 * d + 12 then 0 else jm_ch N i).toInt ∧ (if 12 * d ≤ i ∧ i < 12 * d + 12 then 0 else jm_ch N i).toInt ≤ 99
    by_cases e : 12 * d ≤ i ∧ i < 12 * d + 12
    · rw [if_pos e, Int32.toInt_zero]
      omega
    · rw [if_neg e]
      exact h8 i hi
