/-! ===== what turning leaves alone ===== -/
def xrr (A B : jx_T) : Prop := A.2.2 = B.2.2
theorem xr_ual (X : jx_T) (f : Nat → Int32) : xrr (jx_ual X f) X := rfl
theorem xr_ukp (X : jx_T) (f : Nat → Int32) : xrr (jx_ukp X f) X := rfl
theorem xr_tr {A B C : jx_T} (h : xrr A B) (k : xrr B C) : xrr A C := Eq.trans h k
theorem xr_charges (X : jx_T) : xrr (sX5_charges X) X := by
  have h1 : ∀ X, xrr (sX5_leaks X) X := fun X => xr_ual X _
  have h2 : ∀ X, xrr (sX5_takes_11 X) X := fun X => xr_ual X _
  have h3 : ∀ X, xrr (sX5_takes_10 X) X := fun X => xr_ual X _
  have h4 : ∀ X, xrr (sX5_takes_01 X) X := fun X => xr_ual X _
  have h5 : ∀ X, xrr (sX5_takes_00 X) X := fun X => xr_ual X _
  have h6 : ∀ X, xrr (sX5_joins_1 X) X := fun X => xr_ual X _
  have h7 : ∀ X, xrr (sX5_joins_0 X) X := fun X => xr_ual X _
  have h8 : ∀ X, xrr (sX5_discsTurn X) X := fun X => xr_ual X _
  rw [jx_eq_charges]
  exact xr_tr (h1 _) (xr_tr (h2 _) (xr_tr (h3 _) (xr_tr (h4 _) (xr_tr (h5 _) (xr_tr (h6 _) (xr_tr (h7 _) (xr_tr (h8 _) (xr_ual X _))))))))
theorem xr_logs (X : jx_T) : xrr (sX5_logs X) X := by
  unfold sX5_logs
  by_cases c : (jx_al X) 12 = 8
  · rw [if_pos c]; rfl
  · rw [if_neg c]; rfl
theorem xr_sparks (X : jx_T) : xrr (sX5_sparks X) X := by
  unfold sX5_sparks
  by_cases c : (10 * ((jx_al X) 2)) ≤ (rX5_difference X)
  · rw [if_pos c]
    exact xr_tr (xr_ual (sX5_logs X) _) (xr_logs X)
  · rw [if_neg c]
    rfl
theorem xr_turns (X : jx_T) : xrr (sX5_turns X) X := xr_tr (xr_ual (sX5_sparks (sX5_charges X)) _) (xr_tr (xr_sparks (sX5_charges X)) (xr_charges X))
theorem xr_next (had : Int32) : ∀ (n : Nat) (M : jx_T) (i : Int32), xrr (lx_next had n M i).2 M
  | 0, _, _ => rfl
  | n + 1, M, i => by
    show xrr (if jx_al M 6 = had then lx_next had n (sX5_turns M) (i + 1) else (i, M)).2 M
    by_cases c : jx_al M 6 = had
    · rw [if_pos c]
      exact xr_tr (xr_next had n _ _) (xr_turns M)
    · rw [if_neg c]
      rfl
theorem xr_turn (M : jx_T) : ∀ k, xrr (lx_turn M k) M
  | 0 => rfl
  | k + 1 => xr_tr (xr_turns (lx_turn M k)) (xr_turn M k)
theorem xr_char (M : jx_T) : ∀ k, xrr (lx_char M k) M
  | 0 => rfl
  | k + 1 => xr_tr (xr_charges (lx_char M k)) (xr_char M k)
theorem kp_turn (M : jx_T) : ∀ k, jx_kp (lx_turn M k) = jx_kp M
  | 0 => rfl
  | k + 1 => (jx_kp_turns (lx_turn M k)).trans (kp_turn M k)
theorem kp_char (M : jx_T) : ∀ k, jx_kp (lx_char M k) = jx_kp M
  | 0 => rfl
  | k + 1 => (jx_kp_charges (lx_char M k)).trans (kp_char M k)
/-- back from a look ahead -/
def xbk (A B : jx_T) : Prop := xrr A B ∧ ∀ j, j < 67 → jx_al A j = jx_al B j
theorem xbk_rfl (A : jx_T) : xbk A A := ⟨rfl, fun _ _ => rfl⟩
theorem xbk_of {A X : jx_T} (h1 : xrr A (sX5_keeps X)) (h2 : jx_kp A = jx_kp (sX5_keeps X)) : xbk (sX5_comesBack A) X := by
  refine ⟨xr_tr (xr_ual A _) (xr_tr h1 (xr_ukp X _)), fun j hj => ?_⟩
  show lx_cp (jx_kp A) (jx_al A) 67 j = jx_al X j
  rw [h2]
  show (if j < 67 then (if j < 67 then jx_al X j else jx_kp X j) else jx_al A j) = jx_al X j
  rw [if_pos hj, if_pos hj]
theorem xbk_mr {T S : Nat} {N : jm_T} {A X : jx_T} (h : xbk A X) (m : mrF T S N (jx_al X)) : mrF T S N (jx_al A) := mrF_congr m h.2
theorem an_until {T S : Nat} {N : jm_T} {X : jx_T} (h : mrF T S N (jx_al X)) (hT : T ≤ 99999) (Z : jm_T) : rX4_untilSpark N Z = rX5_untilSpark X ∧ xbk (sX5_untilSpark X) X := by
  have c4 : (400 : Int32).toNatClampNeg = 400 := by decide
  have h' : mrA T S N (jx_al (sX5_keeps X)) := h.1
  have q := until_eq 400 T S 0 N (sX5_keeps X) h' (by omega) (by omega)
  have e6 : jx_al X 6 = nI S := h.1.2.2.1.2.1
  constructor
  · unfold rX4_untilSpark rX5_untilSpark
    dsimp only
    rw [c4, e6]
    exact q
  · exact xbk_of (xr_next _ _ _ _) (jx_kp_next _ _ _ _)
theorem an_ifT {T S : Nat} {N : jm_T} {X : jx_T} (h : mrF T S N (jx_al X)) (hT : T ≤ 99999) (Z : jm_T) (vt vw : Int32) : rX4_ifTurned N Z vt vw = rX5_ifTurned X vt vw ∧ xbk (sX5_ifTurned X vt vw) X := by
  unfold rX4_ifTurned rX5_ifTurned sX5_ifTurned
  dsimp only
  have l1 : (1 : Int64).toInt = 1 := by decide
  have l4 : (400 : Int64).toInt = 400 := by decide
  have l5 : (5 : Int64).toInt = 5 := by decide
  have i1 : (1 : Int32).toInt = 1 := by decide
  have i4 : (400 : Int32).toInt = 400 := by decide
  have i5 : (5 : Int32).toInt = 5 := by decide
  by_cases c : 1 ≤ vt.toInt ∧ vt.toInt ≤ 400
  · obtain ⟨t, ht, et⟩ := rgN (x := vt) (n := 401) (by omega) (by omega) (by omega)
    have c1 : ¬ rX5_in vt.toInt64 1 400 = 0 := by rw [in0, l1, l4]; omega
    have c2 : ¬ vt < 1 := by rw [Int32.lt_iff_toInt_lt, i1]; omega
    have c3 : ¬ 400 < vt := by rw [Int32.lt_iff_toInt_lt, i4]; omega
    rw [if_neg c1, if_neg c1, if_neg c2, if_neg c3]
    by_cases d : 0 ≤ vw.toInt ∧ vw.toInt ≤ 5
    · have d1 : ¬ rX5_in vw.toInt64 0 5 = 0 := by rw [in0, l64_0, l5]; omega
      have d2 : ¬ vw < 0 := by rw [Int32.lt_iff_toInt_lt, Int32.toInt_zero]; omega
      have d3 : vw ≤ 5 := by rw [Int32.le_iff_toInt_le, i5]; omega
      rw [if_neg d1, if_neg d1, if_neg d2, if_pos d3]
      refine ⟨?_, xbk_of (xr_turn _ _) (kp_turn _ _)⟩
      have et2 : vt.toNatClampNeg = t := by rw [et, jk_cl (by omega)]
      rw [et2]
      have h' : mrF T S N (jx_al (sX5_keeps X)) := h
      obtain ⟨S', -, -, g⟩ := st_turns h' t (by omega)
      have gd := difk_eq h' t (by omega)
      have gj := jmp_eq (sX5_keeps X) t
      obtain ⟨w, hw, ew⟩ := rgN (n := 6) d.1 (by omega) (by omega)
      rw [gj, ew]
      have a6 : jx_al (lx_turn (sX5_keeps X) t) 6 = jm_sp (lp_turn N t) := mr_sp g.1
      have b6 : jx_al (sX5_keeps X) 6 = jm_sp N := mr_sp h'.1
      rcases (show w = 0 ∨ w = 1 ∨ w = 2 ∨ w = 3 ∨ w = 4 ∨ w = 5 by omega) with q | q | q | q | q | q <;> subst q
      · show jm_sp (lp_turn N t) - jm_sp N = jx_al (lx_turn (sX5_keeps X) t) 6 - jx_al (sX5_keeps X) 6
        rw [a6, b6]
      · show jm_rv (lp_turn N t) - jm_rv N = jx_al (lx_turn (sX5_keeps X) t) 7 - jx_al X 7
        rw [g.2.1, h.2.1]
      · exact ((g.1.2.2.2.2.1 0 (by omega)).1).symm
      · exact ((g.1.2.2.2.2.1 1 (by omega)).1).symm
      · exact gd
      · exact (all_eq g.1).symm
    · have d1 : rX5_in vw.toInt64 0 5 = 0 := by rw [in0, l64_0, l5]; exact d
      rw [if_pos d1, if_pos d1]
      refine ⟨?_, xbk_rfl X⟩
      by_cases d2 : vw < 0
      · rw [if_pos d2]
      · rw [if_neg d2, if_neg]
        rw [Int32.lt_iff_toInt_lt, Int32.toInt_zero] at d2
        rw [Int32.le_iff_toInt_le, i5]
        omega
  · have c1 : rX5_in vt.toInt64 1 400 = 0 := by rw [in0, l1, l4]; exact c
    rw [if_pos c1, if_pos c1]
    refine ⟨?_, xbk_rfl X⟩
    by_cases c2 : vt < 1
    · rw [if_pos c2]
    · rw [if_neg c2, if_pos]
      rw [Int32.lt_iff_toInt_lt, i1] at c2
      rw [Int32.lt_iff_toInt_lt, i4]
      omega
/-! ===== the widest gap ===== -/
theorem wid_ge (N : jm_T) : ∀ k, 0 ≤ (lc_wid N k).toInt
  | 0 => by
    show 0 ≤ (0 : Int32).toInt
    rw [Int32.toInt_zero]
    omega
  | k + 1 => by
    have ih := wid_ge N k
    rw [lc_wid]
    split
    · rename_i c
      rw [Int32.lt_iff_toInt_lt] at c
      omega
    · exact ih
theorem gap_eq (w : Int32) (h : 0 ≤ w.toInt) : (if jz_lo 2 ≤ (if jz_hi 2 < w / 10 then jz_hi 2 else w / 10) then (if jz_hi 2 < w / 10 then jz_hi 2 else w / 10) else (-1000006)) = (if 10 ≤ w then (if w ≤ 2000 then (w / 10) else 200) else (-1000006)) := by
  have eh : jz_hi 2 = 200 := rfl
  have el : jz_lo 2 = 1 := rfl
  have i1 : (1 : Int32).toInt = 1 := by decide
  have i200 : (200 : Int32).toInt = 200 := by decide
  have i10 : (10 : Int32).toInt = 10 := by decide
  have i2000 : (2000 : Int32).toInt = 2000 := by decide
  have u := Int32.toInt_lt w
  have ed : (w / 10).toInt = w.toInt / 10 := by
    rw [Int32.toInt_div, i10, Int.tdiv_eq_ediv_of_nonneg h]
    exact Int.bmod_eq_of_le (by omega) (by omega)
  rw [eh, el]
  by_cases c : 10 ≤ w
  · rw [if_pos c]
    rw [Int32.le_iff_toInt_le, i10] at c
    by_cases c2 : w ≤ 2000
    · rw [if_pos c2]
      rw [Int32.le_iff_toInt_le, i2000] at c2
      have c3 : ¬ 200 < w / 10 := by rw [Int32.lt_iff_toInt_lt, i200, ed]; omega
      rw [if_neg c3, if_pos]
      rw [Int32.le_iff_toInt_le, i1, ed]
      omega
    · rw [if_neg c2]
      rw [Int32.le_iff_toInt_le, i2000] at c2
      by_cases c3 : 200 < w / 10
      · rw [if_pos c3, if_pos (by decide)]
      · rw [if_neg c3]
        rw [Int32.lt_iff_toInt_lt, i200, ed] at c3
        have e2 : w / 10 = 200 := Int32.toInt_inj.mp (by rw [ed, i200]; omega)
        rw [e2, if_pos (by decide)]
  · rw [if_neg c]
    rw [Int32.le_iff_toInt_le, i10] at c
    have c3 : ¬ 200 < w / 10 := by rw [Int32.lt_iff_toInt_lt, i200, ed]; omega
    rw [if_neg c3, if_neg]
    rw [Int32.le_iff_toInt_le, i1, ed]
    omega
theorem an_gap {T S : Nat} {N : jm_T} {X : jx_T} (h : mrF T S N (jx_al X)) (hT : T ≤ 99999) : lc_wg N = rX5_widestGap X ∧ xbk (sX5_widestGap X) X := by
  have h' : mrA T S N (jx_al (sX5_keeps X)) := h.1
  constructor
  · unfold lc_wg rX5_widestGap
    dsimp only
    rw [gap_eq _ (wid_ge N 200), (wid_eq h' 200 (by omega)).1]
  · exact xbk_of (xr_char _ _) (kp_char _ _)
/-! ===== the most damp ===== -/
/-- as `xbk`, but for the damp -/
def xbd (A B : jx_T) : Prop := xrr A B ∧ ∀ j, j < 67 → j ≠ 1 → jx_al A j = jx_al B j
theorem dp_mr {T S d k : Nat} {N : jm_T} {X A : jx_T} (h : mrF T S N (jx_al X)) (hA : xbd A X) (e : d + k = 60) : mrF T S (lc_dp N k) (jx_al (jx_ual A (upd (jx_al A) 1 (nI d)))) := by
  have ed : jz_hi 1 - nI k = nI d := by
    show nI 60 - nI k = nI d
    rw [pk_sub (by omega), show 60 - k = d by omega]
  obtain ⟨⟨h1, h2, h3, h4, h5, h6, h7, h8, h9⟩, e7, e8⟩ := h
  have off : ∀ j, j < 67 → j ≠ 1 → upd (jx_al A) 1 (nI d) j = jx_al X j := fun j hj h1 => (pk_un h1).trans (hA.2 j hj h1)
  unfold lc_dp
  rw [ed]
  refine ⟨⟨h1, ?_, ⟨(off 5 (by omega) (by omega)).trans h3.1, (off 6 (by omega) (by omega)).trans h3.2.1, (off 9 (by omega) (by omega)).trans h3.2.2.1, (off 10 (by omega) (by omega)).trans h3.2.2.2.1, (off 11 (by omega) (by omega)).trans h3.2.2.2.2⟩, fun c hc => (off _ (by omega) (by omega)).trans (h4 c hc), fun j hj => ⟨(off _ (by omega) (by omega)).trans (h5 j hj).1, (off _ (by omega) (by omega)).trans (h5 j hj).2.1, (off _ (by omega) (by omega)).trans (h5 j hj).2.2⟩, ⟨(off 12 (by omega) (by omega)).trans h6.1, fun k hk w hw => (off _ (by omega) (by omega)).trans (h6.2 k hk w hw)⟩, ?_, h8, ?_⟩, (off 7 (by omega) (by omega)).trans e7, (off 8 (by omega) (by omega)).trans e8⟩
  · intro i hi
    show upd (jx_al A) 1 (nI d) i = upd (jm_se N) 1 (nI d) i
    by_cases q : i = 1
    · rw [q, pk_us, pk_us]
    · rw [off i (by omega) q, pk_un q]
      exact h2 i hi
  · refine ⟨h7.1, ?_, h7.2.2⟩
    show 0 ≤ (upd (jm_se N) 1 (nI d) 1).toInt ∧ (upd (jm_se N) 1 (nI d) 1).toInt ≤ 60
    rw [pk_us, nI_toInt (by omega)]
    omega
  · exact h9
theorem md_eq {T S : Nat} {N : jm_T} {X : jx_T} (h : mrF T S N (jx_al X)) (hT : T ≤ 99999) : ∀ (d k : Nat) (Z : jm_T) (A : jx_T), d + k = 61 → xbd A X → (lc_md N d k Z).1 = (if (lx_md d A).2.1 = 0 then (-1000006) else (lx_md d A).1) ∧ xbd (lx_md d A).2.2 X
  | 0, k, Z, A, e, hA => ⟨rfl, hA⟩
  | d + 1, k, Z, A, e, hA => by
    have ed : jz_hi 1 - nI k = nI d := by
      show nI 60 - nI k = nI d
      rw [pk_sub (by omega), show 60 - k = d by omega]
    have c2 : (200 : Int32).toNatClampNeg = 200 := by decide
    have m := dp_mr h hA (show d + k = 60 by omega)
    generalize eB : jx_ual A (upd (jx_al A) 1 (nI d)) = B at m
    have hB : xbd B X := by
      rw [← eB]
      exact ⟨xr_tr (xr_ual A _) hA.1, fun j hj h1 => (pk_un h1).trans (hA.2 j hj h1)⟩
    have m' : mrA T S (lc_dp N k) (jx_al (sX5_keeps B)) := m.1
    have q := until_eq 200 T S 0 (lc_dp N k) (sX5_keeps B) m' (by omega) (by omega)
    have e6 : jx_al B 6 = nI S := m.1.2.2.1.2.1
    have en : lx_n200 B = lx_next (nI S) (200 + 1) (sX5_keeps B) (nI 0) := by
      unfold lx_n200
      rw [e6, c2]
      rfl
    have q2 : (lp_spark (200 : Int32).toNatClampNeg (lc_dp N k) 1).1 = if (lx_n200 B).1 ≤ 200 then (lx_n200 B).1 else (-1000006) := by
      rw [en, c2]
      exact q
    have hC : xbk (sX5_comesBack (lx_n200 B).2) B := by
      rw [en]
      exact xbk_of (xr_next _ _ _ _) (jx_kp_next _ _ _ _)
    have hC2 : xbd (sX5_comesBack (lx_n200 B).2) X := ⟨xr_tr hC.1 hB.1, fun j hj h1 => (hC.2 j hj).trans (hB.2 j hj h1)⟩
    rw [lc_md, lx_md, eB, q2]
    by_cases c : (if (lx_n200 B).1 ≤ 200 then (lx_n200 B).1 else (-1000006)) = -1000006
    · rw [if_pos c, if_pos c]
      exact md_eq h hT d (k + 1) _ _ (by omega) hC2
    · rw [if_neg c, if_neg c]
      refine ⟨?_, hC2⟩
      show jz_hi 1 - nI k = if (1 : Int32) = 0 then (-1000006) else nI d
      rw [if_neg (by decide), ed]
theorem an_damp {T S : Nat} {N : jm_T} {X : jx_T} (h : mrF T S N (jx_al X)) (hT : T ≤ 99999) (Z : jm_T) : (lc_md N 61 0 Z).1 = (if (lx_md 61 X).2.1 = 0 then (-1000006) else (lx_md 61 X).1) ∧ xbk (jx_ual (lx_md 61 X).2.2 (upd (jx_al (lx_md 61 X).2.2) 1 ((jx_al X) 1))) X := by
  obtain ⟨a, b⟩ := md_eq h hT 61 0 Z X rfl ⟨rfl, fun _ _ _ => rfl⟩
  generalize lx_md 61 X = W at a b
  refine ⟨a, xr_tr (xr_ual W.2.2 _) b.1, fun j hj => ?_⟩
  show upd (jx_al W.2.2) 1 (jx_al X 1) j = jx_al X j
  by_cases q : j = 1
  · rw [q, pk_us]
  · rw [pk_un q]
    exact b.2 j hj q
