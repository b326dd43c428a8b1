/-! ===== both states, side by side ===== -/
def rlh (nh od : Nat) (Hs : jh_T) (F : jf_T) (X : jx_T) : Prop := nh ≤ 6 ∧ jx_hl X = nI nh ∧ jh_sz Hs = nI nh ∧ jh_ol Hs = nI od ∧ ∀ i, i < nh → ∃ Mj, F ((od + i) % 6) = some Mj ∧ mrB Mj (fun j => jx_hi X (67 * i + j))
def rls (G : jf_T) (X : jx_T) : Prop := ∀ v, v < 2 → (jx_sv X v = 0 ∧ G v = none) ∨ (¬ jx_sv X v = 0 ∧ ∃ Mj, G v = some Mj ∧ mrB Mj (fun j => jx_sl X (67 * v + j)))
def rlp (P : jp_T) (X : jx_T) : Prop := ∃ t, t ≤ 60 ∧ jx_tl X = nI t ∧ jp_ln P = nI t ∧ (∀ j, j < t → jp_sg P j = jx_tx X j) ∧ jp_chs P
theorem xrr_hi {A B : jx_T} (h : xrr A B) : jx_hi A = jx_hi B := congrArg (fun z => z.1) h
theorem xrr_sl {A B : jx_T} (h : xrr A B) : jx_sl A = jx_sl B := congrArg (fun z => z.2.1) h
theorem xrr_sv {A B : jx_T} (h : xrr A B) : jx_sv A = jx_sv B := congrArg (fun z => z.2.2.1) h
theorem xrr_tx {A B : jx_T} (h : xrr A B) : jx_tx A = jx_tx B := congrArg (fun z => z.2.2.2.1) h
theorem xrr_hl {A B : jx_T} (h : xrr A B) : jx_hl A = jx_hl B := congrArg (fun z => z.2.2.2.2.1) h
theorem xrr_tl {A B : jx_T} (h : xrr A B) : jx_tl A = jx_tl B := congrArg (fun z => z.2.2.2.2.2.1) h
theorem rlh_xr {nh od : Nat} {Hs : jh_T} {F : jf_T} {A B : jx_T} (h : rlh nh od Hs F B) (e : jx_hi A = jx_hi B) (e2 : jx_hl A = jx_hl B) : rlh nh od Hs F A := by
  unfold rlh
  rw [e, e2]
  exact h
theorem rls_xr {G : jf_T} {A B : jx_T} (h : rls G B) (e : jx_sl A = jx_sl B) (e2 : jx_sv A = jx_sv B) : rls G A := by
  unfold rls
  rw [e, e2]
  exact h
theorem rlp_xr {P : jp_T} {A B : jx_T} (h : rlp P B) (e : jx_tx A = jx_tx B) (e2 : jx_tl A = jx_tl B) : rlp P A := by
  unfold rlp
  rw [e, e2]
  exact h
theorem fm6 {a : Nat} (h : a < 1000000) : (rJ9_floorMod_7cf53 (nI a) 6).toNatClampNeg = a % 6 := by
  have e := jk_fm (nI a) 6 (by decide)
  rw [nI_toInt (by omega), show (6 : Int32).toInt = 6 by decide] at e
  show (rJ9_floorMod_7cf53 (nI a) 6).toInt.toNat = _
  rw [e]
  omega
theorem rec_6 {od : Nat} {Hs : jh_T} (h1 : jh_sz Hs = nI 6) (h2 : jh_ol Hs = nI od) (ho : od < 999900) : jh_sz (jh_rec Hs) = nI 6 ∧ jh_ol (jh_rec Hs) = nI (od + 1) ∧ (jh_ix Hs).toNatClampNeg = od % 6 := by
  refine ⟨?_, ?_, ?_⟩
  · rw [jh_rec6 h1]
    show jh_sz Hs - 1 + 1 = nI 6
    rw [h1]
    rfl
  · rw [jh_rec6 h1]
    show jh_ol Hs + 1 = nI (od + 1)
    rw [h2, show (1 : Int32) = nI 1 from rfl, nI_add]
  · rw [← jh_ix6 h1, h1, h2, show nI od + 1 + (nI 6 - 1) = nI (od + 6) by rw [show (1 : Int32) = nI 1 from rfl, pk_sub (by omega), nI_add, nI_add], fm6 (by omega)]
    omega
theorem rec_n {nh od : Nat} {Hs : jh_T} (hn : nh < 6) (h1 : jh_sz Hs = nI nh) (h2 : jh_ol Hs = nI od) (ho : od < 999900) : jh_sz (jh_rec Hs) = nI (nh + 1) ∧ jh_ol (jh_rec Hs) = nI od ∧ (jh_ix Hs).toNatClampNeg = (od + nh) % 6 := by
  have h6 : ¬ jh_sz Hs = 6 := by
    rw [h1, show (6 : Int32) = nI 6 from rfl, nI_eq (by omega) (by omega)]
    omega
  refine ⟨?_, ?_, ?_⟩
  · rw [jh_recn h6]
    show jh_sz Hs + 1 = nI (nh + 1)
    rw [h1, show (1 : Int32) = nI 1 from rfl, nI_add]
  · rw [jh_recn h6]
    exact h2
  · rw [← jh_ixn h6, h1, h2, nI_add, fm6 (by omega)]
theorem rl_rec {nh od : Nat} {Hs : jh_T} {F : jf_T} {X A : jx_T} {N : jm_T} (h : rlh nh od Hs F X) (ho : od < 999000) (m : mrB N (jx_al X)) (hA : xrr A (lx_chg X nh)) : ∃ nh' od', od' ≤ od + 1 ∧ rlh nh' od' (jh_rec Hs) (jf_u F (jh_ix Hs).toNatClampNeg N) A := by
  obtain ⟨h1, h2, h3, h4, h5⟩ := h
  have eH : jx_hi A = lx_hi (jx_al X) (jx_hi X) nh := xrr_hi hA
  have eL : jx_hl A = lx_hl nh := xrr_hl hA
  by_cases c : nh = 6
  · subst c
    obtain ⟨r1, r2, r3⟩ := rec_6 h3 h4 (by omega)
    refine ⟨6, od + 1, Nat.le_refl _, ⟨Nat.le_refl _, eL, r1, r2, fun i hi => ?_⟩⟩
    rw [eH, r3]
    by_cases q : i = 5
    · refine ⟨N, ?_, mrB_congr m (fun j hj => ?_)⟩
      · show (if (od + 1 + i) % 6 = od % 6 then some N else F ((od + 1 + i) % 6)) = some N
        rw [if_pos (by omega)]
      · show (if 335 ≤ 67 * i + j ∧ 67 * i + j < 335 + 67 then jx_al X (0 + (67 * i + j - 335)) else lx_sh (jx_hi X) 67 335 (67 * i + j)) = jx_al X j
        rw [if_pos (by omega)]
        exact congrArg (jx_al X) (by omega)
    · obtain ⟨Mj, f1, f2⟩ := h5 (i + 1) (by omega)
      refine ⟨Mj, ?_, mrB_congr f2 (fun j hj => ?_)⟩
      · show (if (od + 1 + i) % 6 = od % 6 then some N else F ((od + 1 + i) % 6)) = some Mj
        rw [if_neg (by omega), ← f1]
        exact congrArg (F) (by omega)
      · show (if 335 ≤ 67 * i + j ∧ 67 * i + j < 335 + 67 then jx_al X (0 + (67 * i + j - 335)) else (if 67 * i + j < 335 then jx_hi X (67 * i + j + 67) else jx_hi X (67 * i + j))) = jx_hi X (67 * (i + 1) + j)
        rw [if_neg (by omega), if_pos (by omega)]
        exact congrArg (jx_hi X) (by omega)
  · obtain ⟨r1, r2, r3⟩ := rec_n (show nh < 6 by omega) h3 h4 (by omega)
    have eL2 : lx_hl nh = nI (nh + 1) := if_neg c
    have eH2 : lx_hi (jx_al X) (jx_hi X) nh = lx_cpo (jx_al X) (jx_hi X) 0 (67 * nh) 67 := if_neg c
    refine ⟨nh + 1, od, by omega, ⟨by omega, eL.trans eL2, r1, r2, fun i hi => ?_⟩⟩
    rw [eH, eH2, r3]
    by_cases q : i = nh
    · subst q
      refine ⟨N, ?_, mrB_congr m (fun j hj => ?_)⟩
      · show (if (od + i) % 6 = (od + i) % 6 then some N else F ((od + i) % 6)) = some N
        rw [if_pos rfl]
      · show (if 67 * i ≤ 67 * i + j ∧ 67 * i + j < 67 * i + 67 then jx_al X (0 + (67 * i + j - 67 * i)) else jx_hi X (67 * i + j)) = jx_al X j
        rw [if_pos (by omega)]
        exact congrArg (jx_al X) (by omega)
    · obtain ⟨Mj, f1, f2⟩ := h5 i (by omega)
      refine ⟨Mj, ?_, mrB_congr f2 (fun j hj => ?_)⟩
      · show (if (od + i) % 6 = (od + nh) % 6 then some N else F ((od + i) % 6)) = some Mj
        rw [if_neg (by omega)]
        exact f1
      · show (if 67 * nh ≤ 67 * i + j ∧ 67 * i + j < 67 * nh + 67 then jx_al X (0 + (67 * i + j - 67 * nh)) else jx_hi X (67 * i + j)) = jx_hi X (67 * i + j)
        rw [if_neg (by omega)]
/-! ===== taken back ===== -/
theorem rl_undo0 {nh od : Nat} {Hs : jh_T} {F : jf_T} {X : jx_T} (h : rlh nh od Hs F X) (N : jm_T) (c : jh_sz Hs = 0) : rX4_undo_0 N Hs = rX5_undo X ∧ sX5_undo X nh = X := by
  have e : jx_hl X = 0 := by rw [h.2.1, ← h.2.2.1, c]
  unfold rX5_undo sX5_undo
  rw [if_pos e, if_pos e]
  exact ⟨rfl, rfl⟩
theorem rl_undo {nh od : Nat} {Hs : jh_T} {F : jf_T} {X : jx_T} (h : rlh nh od Hs F X) (ho : od < 999000) (N : jm_T) (c : ¬ jh_sz Hs = 0) : ∃ Mj, F (jh_ib Hs).toNatClampNeg = some Mj ∧ rX4_undo_s N Hs Mj = rX5_undo X ∧ mrB (sX4_undo_s_1 N Hs Mj) (jx_al (sX5_undo X nh)) ∧ rlh (nh - 1) od (sX4_undo_s_2 N Hs Mj) F (sX5_undo X nh) ∧ jx_sl (sX5_undo X nh) = jx_sl X ∧ jx_sv (sX5_undo X nh) = jx_sv X ∧ jx_tx (sX5_undo X nh) = jx_tx X ∧ jx_tl (sX5_undo X nh) = jx_tl X := by
  obtain ⟨h1, h2, h3, h4, h5⟩ := h
  have n0 : nh ≠ 0 := fun q => c (by rw [h3, q]; rfl)
  have e : ¬ jx_hl X = 0 := by rw [h2, ← h3]; exact c
  have ei : (jh_ib Hs).toNatClampNeg = (od + (nh - 1)) % 6 := by
    unfold jh_ib
    rw [h3, h4, show nI od + nI nh - 1 = nI (od + nh - 1) by rw [nI_add, show (1 : Int32) = nI 1 from rfl, pk_sub (by omega)], fm6 (by omega)]
    omega
  have e1 : nI nh - 1 = nI (nh - 1) := by rw [show (1 : Int32) = nI 1 from rfl, pk_sub (by omega)]
  obtain ⟨Mj, f1, f2⟩ := h5 (nh - 1) (by omega)
  have eS : sX5_undo X nh = jx_uhl (jx_ual X (lx_cpo (jx_hi X) (jx_al X) (67 * (nh - 1)) 0 67)) (jx_hl X - 1) := if_neg e
  have eR : rX5_undo X = jx_hl X - 1 := if_neg e
  rw [eS, eR, ei]
  refine ⟨Mj, f1, ?_, mrB_congr f2 (fun j hj => ?_), ⟨by omega, ?_, ?_, h4, fun i hi => h5 i (by omega)⟩, rfl, rfl, rfl, rfl⟩
  · show jh_sz Hs - 1 = jx_hl X - 1
    rw [h2, h3]
  · show (if 0 ≤ j ∧ j < 0 + 67 then jx_hi X (67 * (nh - 1) + (j - 0)) else jx_al X j) = jx_hi X (67 * (nh - 1) + j)
    rw [if_pos (by omega)]
    rfl
  · show jx_hl X - 1 = nI (nh - 1)
    rw [h2, e1]
  · show jh_sz Hs - 1 = nI (nh - 1)
    rw [h3, e1]
/-! ===== kept, and taken up again ===== -/
theorem slot_e {v : Int32} (h : v.toInt < 0 ∨ 2 ≤ v.toInt) : v < 0 ∨ ¬ v < 2 := by
  rw [Int32.lt_iff_toInt_lt, Int32.lt_iff_toInt_lt, Int32.toInt_zero, lt2i]
  omega
theorem slot_i {v : Nat} (h : v < 2) : ¬ nI v < 0 ∧ nI v < 2 := by
  rw [Int32.lt_iff_toInt_lt, Int32.lt_iff_toInt_lt, Int32.toInt_zero, lt2i, nI_toInt (by omega)]
  omega
theorem rl_save_e (X : jx_T) {v : Int32} (h : v.toInt < 0 ∨ 2 ≤ v.toInt) : rX5_save X v = -1000002 ∧ sX5_save X v = X := by
  unfold rX5_save sX5_save
  dsimp only
  rw [if_pos (isd' h), if_pos (isd' h)]
  exact ⟨rfl, rfl⟩
theorem rl_save {G : jf_T} {X : jx_T} {N : jm_T} (h : rls G X) (m : mrB N (jx_al X)) {v : Nat} (hv : v < 2) : rX5_save X (nI v) = jm_tu N ∧ rls (jf_u G v N) (sX5_save X (nI v)) ∧ jx_al (sX5_save X (nI v)) = jx_al X ∧ jx_hi (sX5_save X (nI v)) = jx_hi X ∧ jx_hl (sX5_save X (nI v)) = jx_hl X ∧ jx_tx (sX5_save X (nI v)) = jx_tx X ∧ jx_tl (sX5_save X (nI v)) = jx_tl X := by
  have eS : sX5_save X (nI v) = jx_usv (jx_usl X (lx_cpo (jx_al X) (jx_sl X) 0 (67 * (nI v).toNatClampNeg) 67)) (upd (jx_sv X) (nI v).toNatClampNeg 1) := if_neg (isd hv)
  have eR : rX5_save X (nI v) = jx_al X 5 := if_neg (isd hv)
  have ec : (nI v).toNatClampNeg = v := jk_cl (by omega)
  rw [eS, eR, ec]
  refine ⟨?_, fun w hw => ?_, rfl, rfl, rfl, rfl, rfl⟩
  · obtain ⟨T, S, -, k⟩ := m
    exact mr_tu k.1
  · show (upd (jx_sv X) v 1 w = 0 ∧ (if w = v then some N else G w) = none) ∨ (¬ upd (jx_sv X) v 1 w = 0 ∧ ∃ Mj, (if w = v then some N else G w) = some Mj ∧ mrB Mj (fun j => lx_cpo (jx_al X) (jx_sl X) 0 (67 * v) 67 (67 * w + j)))
    by_cases q : w = v
    · subst q
      refine Or.inr ⟨by rw [pk_us]; decide, N, if_pos rfl, mrB_congr m (fun j hj => ?_)⟩
      show (if 67 * w ≤ 67 * w + j ∧ 67 * w + j < 67 * w + 67 then jx_al X (0 + (67 * w + j - 67 * w)) else jx_sl X (67 * w + j)) = jx_al X j
      rw [if_pos (by omega)]
      exact congrArg (jx_al X) (by omega)
    · rw [pk_un q, if_neg q]
      rcases h w hw with k | ⟨k1, Mj, k2, k3⟩
      · exact Or.inl k
      · refine Or.inr ⟨k1, Mj, k2, mrB_congr k3 (fun j hj => ?_)⟩
        show (if 67 * v ≤ 67 * w + j ∧ 67 * w + j < 67 * v + 67 then jx_al X (0 + (67 * w + j - 67 * v)) else jx_sl X (67 * w + j)) = jx_sl X (67 * w + j)
        rw [if_neg (by omega)]
theorem rl_restore_e (X : jx_T) {v : Int32} (nh : Nat) (h : v.toInt < 0 ∨ 2 ≤ v.toInt) : rX5_restore X v = -1000002 ∧ sX5_restore X v nh = X := by
  unfold rX5_restore sX5_restore
  dsimp only
  rw [if_pos (isd' h), if_pos (isd' h)]
  exact ⟨rfl, rfl⟩
theorem rl_restore_n {G : jf_T} {X : jx_T} (h : rls G X) {v : Nat} (hv : v < 2) (nh : Nat) (c : G v = none) : rX5_restore X (nI v) = -1000005 ∧ sX5_restore X (nI v) nh = X := by
  have ec : (nI v).toNatClampNeg = v := jk_cl (by omega)
  have e0 : jx_sv X v = 0 := by
    rcases h v hv with k | ⟨k1, Mj, k2, k3⟩
    · exact k.1
    · rw [c] at k2
      exact absurd k2 (by simp)
  unfold rX5_restore sX5_restore
  dsimp only
  rw [if_neg (isd hv), if_neg (isd hv), ec, if_pos e0, if_pos e0]
  exact ⟨rfl, rfl⟩
theorem rl_restore {G : jf_T} {X : jx_T} (h : rls G X) {v : Nat} (hv : v < 2) (nh : Nat) {Mj : jm_T} (c : G v = some Mj) : rX5_restore X (nI v) = jm_tu Mj ∧ mrB Mj (jx_al (sX5_restore X (nI v) nh)) ∧ xrr (sX5_restore X (nI v) nh) (lx_chg X nh) := by
  have ec : (nI v).toNatClampNeg = v := jk_cl (by omega)
  have ⟨e0, k3⟩ : ¬ jx_sv X v = 0 ∧ mrB Mj (fun j => jx_sl X (67 * v + j)) := by
    rcases h v hv with k | ⟨k1, M2, k2, k3⟩
    · rw [c] at k
      exact absurd k.2 (by simp)
    · rw [c] at k2
      cases k2
      exact ⟨k1, k3⟩
  have m : mrB Mj (lx_cpo (jx_sl X) (jx_al X) (67 * v) 0 67) := mrB_congr k3 (fun j hj => by
    show (if 0 ≤ j ∧ j < 0 + 67 then jx_sl X (67 * v + (j - 0)) else jx_al X j) = jx_sl X (67 * v + j)
    rw [if_pos (by omega)]
    rfl)
  unfold rX5_restore sX5_restore
  dsimp only
  rw [if_neg (isd hv), if_neg (isd hv), ec, if_neg e0, if_neg e0]
  refine ⟨?_, m, xr_ual (lx_chg X nh) _⟩
  obtain ⟨T, S, -, k⟩ := m
  exact mr_tu k.1
theorem rl_ok {N : jm_T} {f : Nat → Int32} (m : mrB N f) : jx_ok f := by
  obtain ⟨T, S, -, k⟩ := m
  exact ⟨min S 8, by omega, k.1.2.2.2.2.2.1.1⟩
theorem rl_tb {P : jp_T} {X : jx_T} (h : rlp P X) : ∃ t : Nat, t ≤ 60 ∧ jx_tl X = nI t := by
  obtain ⟨t, a, b, -⟩ := h
  exact ⟨t, a, b⟩
/-! ===== the pad is wiped ===== -/
theorem rl_wipe {P : jp_T} {X : jx_T} (h : rlp P X) : rX4_wipe P = rX5_wipe X ∧ rlp (sX4_wipe_1 P) (sX5_wipe X) := by
  obtain ⟨t, h1, h2, h3, h4, h5⟩ := h
  refine ⟨?_, 0, by omega, rfl, rfl, fun j hj => absurd hj (by omega), h5⟩
  show jp_ln P = jx_tl X
  rw [h2, h3]
