/-! ===== deeds, with the history ===== -/
def mrB (M : jm_T) (f : Nat → Int32) : Prop := ∃ T S, T ≤ 99999 ∧ mrF T S M f
theorem mrB_congr {M : jm_T} {f f' : Nat → Int32} (h : mrB M f) (e : ∀ j, j < 67 → f' j = f j) : mrB M f' := by
  obtain ⟨T, S, a, b⟩ := h
  exact ⟨T, S, a, mrF_congr b e⟩
def ddN (N : jm_T) (Hs : jh_T) (F : jf_T) (X : jx_T) (R4 : Int32) (S1 : jm_T) (S2 : jh_T) (S3 : jf_T) (R5 : Int32) (S5 : jx_T) : Prop := R4 = R5 ∧ S1 = N ∧ S2 = Hs ∧ S3 = F ∧ S5 = X
def ddY (N : jm_T) (Hs : jh_T) (F : jf_T) (X : jx_T) (nh : Nat) (R4 : Int32) (S1 : jm_T) (S2 : jh_T) (S3 : jf_T) (R5 : Int32) (S5 : jx_T) : Prop := R4 = R5 ∧ S2 = jh_rec Hs ∧ S3 = jf_u F (jh_ix Hs).toNatClampNeg N ∧ xrr S5 (lx_chg X nh) ∧ mrB S1 (jx_al S5)
def dd (N : jm_T) (Hs : jh_T) (F : jf_T) (X : jx_T) (nh : Nat) (R4 : Int32) (S1 : jm_T) (S2 : jh_T) (S3 : jf_T) (R5 : Int32) (S5 : jx_T) : Prop := ddN N Hs F X R4 S1 S2 S3 R5 S5 ∨ ddY N Hs F X nh R4 S1 S2 S3 R5 S5
theorem an_touch {T S : Nat} {N : jm_T} {X : jx_T} (h : mrF T S N (jx_al X)) (hT : T ≤ 99999) (Hs : jh_T) (F : jf_T) (nh : Nat) (vd vq vx : Int32) : dd N Hs F X nh (rX4_touch N Hs F vd vq vx) (sX4_touch_1 N Hs F vd vq vx) (sX4_touch_2 N Hs F vd vq vx) (sX4_touch_3 N Hs F vd vq vx) (rX5_touch X vd vq vx nh) (sX5_touch X vd vq vx nh) := by
  have l1 : (-99 : Int64).toInt = -99 := by decide
  have l2 : (99 : Int64).toInt = 99 := by decide
  have i1 : (-99 : Int32).toInt = -99 := by decide
  have i2 : (99 : Int32).toInt = 99 := by decide
  unfold rX4_touch sX4_touch_1 sX4_touch_2 sX4_touch_3 rX5_touch sX5_touch
  dsimp only
  rcases two_or vd with ⟨d, hd, e⟩ | e
  · rw [e, if_pos (nod hd), if_pos (nod hd), if_pos (nod hd), if_pos (nod hd), if_neg (isd hd), if_neg (isd hd)]
    rcases twl_or vq with ⟨q, hq, e2⟩ | e2
    · rw [e2, if_pos (npl hq), if_pos (npl hq), if_pos (npl hq), if_pos (npl hq), if_neg (ipl hq), if_neg (ipl hq)]
      by_cases c : -99 ≤ vx.toInt ∧ vx.toInt ≤ 99
      · have c1 : ¬ rX5_in vx.toInt64 (-99) 99 = 0 := by rw [in0, l1, l2]; omega
        have c2 : ¬ vx < -99 := by rw [Int32.lt_iff_toInt_lt, i1]; omega
        have c3 : vx ≤ 99 := by rw [Int32.le_iff_toInt_le, i2]; omega
        rw [if_neg c1, if_neg c1, if_neg c2, if_neg c2, if_neg c2, if_neg c2, if_pos c3, if_pos c3, if_pos c3, if_pos c3]
        have h' : mrF T S N (jx_al (lx_chg X nh)) := h
        obtain ⟨p1, p2⟩ := st_put h' (by omega) hd hq c
        exact Or.inr ⟨p2.symm, rfl, rfl, xr_ual (lx_chg X nh) _, T, S, hT, p1⟩
      · have c1 : rX5_in vx.toInt64 (-99) 99 = 0 := by rw [in0, l1, l2]; exact c
        rw [if_pos c1, if_pos c1]
        by_cases c2 : vx < -99
        · rw [if_pos c2, if_pos c2, if_pos c2, if_pos c2]
          exact Or.inl ⟨rfl, rfl, rfl, rfl, rfl⟩
        · have c3 : ¬ vx ≤ 99 := by
            rw [Int32.lt_iff_toInt_lt, i1] at c2
            rw [Int32.le_iff_toInt_le, i2]
            omega
          rw [if_neg c2, if_neg c2, if_neg c2, if_neg c2, if_neg c3, if_neg c3, if_neg c3, if_neg c3]
          exact Or.inl ⟨rfl, rfl, rfl, rfl, rfl⟩
    · rw [if_neg (npl' e2), if_neg (npl' e2), if_neg (npl' e2), if_neg (npl' e2), if_pos (ipl' e2), if_pos (ipl' e2)]
      exact Or.inl ⟨rfl, rfl, rfl, rfl, rfl⟩
  · rw [if_neg (nod' e), if_neg (nod' e), if_neg (nod' e), if_neg (nod' e), if_pos (isd' e), if_pos (isd' e)]
    exact Or.inl ⟨rfl, rfl, rfl, rfl, rfl⟩
theorem left_iff {T S : Nat} {N : jm_T} {X : jx_T} (h : mrF T S N (jx_al X)) (hT : T ≤ 99999) {t : Nat} (ht : t < 1000000) : (rX2_hasTurnsLeft N (nI t) = 0 ↔ ¬ T + t ≤ 99999) ∧ (jx_al X 5 + nI t ≤ 99999 ↔ T + t ≤ 99999) := by
  have i9 : (99999 : Int32).toInt = 99999 := by decide
  have a : jm_tu N + nI t = nI (T + t) := by rw [h.1.1.1, nI_add]
  have b : jx_al X 5 + nI t = nI (T + t) := by rw [mr_tu h.1, a]
  constructor
  · unfold rX2_hasTurnsLeft
    rw [a]
    by_cases c : 99999 < nI (T + t)
    · rw [if_pos c]
      rw [Int32.lt_iff_toInt_lt, i9, nI_toInt (by omega)] at c
      exact ⟨fun _ => by omega, fun _ => rfl⟩
    · rw [if_neg c]
      rw [Int32.lt_iff_toInt_lt, i9, nI_toInt (by omega)] at c
      exact ⟨fun q => absurd q (by decide), fun q => absurd (by omega) q⟩
  · rw [b, Int32.le_iff_toInt_le, i9, nI_toInt (by omega)]
    omega
theorem st_told {T S : Nat} {N : jm_T} {X : jx_T} (h : mrF T S N (jx_al X)) {t : Nat} (hT : T + t ≤ 99999) : rX5_turned X (nI t) = jm_sp (lp_turn N t) - jm_sp N ∧ mrB (lp_turn N t) (jx_al (sX5_turned X (nI t))) ∧ xrr (sX5_turned X (nI t)) X := by
  have ec : (nI t).toNatClampNeg = t := jk_cl (by omega)
  obtain ⟨S', -, -, g⟩ := st_turns h t (by omega)
  have er : rX5_turned X (nI t) = jx_al (lx_turn X (nI t).toNatClampNeg) 6 - jx_al X 6 := rfl
  have es : sX5_turned X (nI t) = lx_turn X (nI t).toNatClampNeg := rfl
  rw [er, es, ec]
  refine ⟨?_, ⟨T + t, S', hT, g⟩, xr_turn X t⟩
  rw [mr_sp g.1, mr_sp h.1]
theorem an_turn {T S : Nat} {N : jm_T} {X : jx_T} (h : mrF T S N (jx_al X)) (hT : T ≤ 99999) (Hs : jh_T) (F : jf_T) (nh : Nat) (vt : Int32) : dd N Hs F X nh (rX4_turn N Hs F vt) (sX4_turn_1 N Hs F vt) (sX4_turn_2 N Hs F vt) (sX4_turn_3 N Hs F vt) (rX5_turn X vt nh) (sX5_turn X vt nh) := by
  have l1 : (1 : Int64).toInt = 1 := by decide
  have l2 : (99 : Int64).toInt = 99 := by decide
  have i1 : (1 : Int32).toInt = 1 := by decide
  have i2 : (99 : Int32).toInt = 99 := by decide
  unfold rX4_turn sX4_turn_1 sX4_turn_2 sX4_turn_3 rX5_turn sX5_turn
  dsimp only
  by_cases c : 1 ≤ vt.toInt ∧ vt.toInt ≤ 99
  · obtain ⟨t, ht, et⟩ := rgN (x := vt) (n := 100) (by omega) (by omega) (by omega)
    have c1 : ¬ rX5_in vt.toInt64 1 99 = 0 := by rw [in0, l1, l2]; omega
    have c2 : ¬ vt < 1 := by rw [Int32.lt_iff_toInt_lt, i1]; omega
    have c3 : vt ≤ 99 := by rw [Int32.le_iff_toInt_le, i2]; omega
    rw [if_neg c1, if_neg c1, if_neg c2, if_neg c2, if_neg c2, if_neg c2, if_pos c3, if_pos c3, if_pos c3, if_pos c3]
    obtain ⟨q1, q2⟩ := left_iff h hT (show t < 1000000 by omega)
    rw [et]
    by_cases k : T + t ≤ 99999
    · have k1 : ¬ rX2_hasTurnsLeft N (nI t) = 0 := fun z => q1.mp z k
      have k2 := q2.mpr k
      rw [if_neg k1, if_neg k1, if_neg k1, if_neg k1, if_pos k2, if_pos k2]
      have h' : mrF T S N (jx_al (lx_chg X nh)) := h
      obtain ⟨p1, p2, p3⟩ := st_told h' k
      rw [jk_cl (by omega)]
      exact Or.inr ⟨p1.symm, rfl, rfl, p3, p2⟩
    · have k1 := q1.mpr k
      have k2 : ¬ jx_al X 5 + nI t ≤ 99999 := fun z => k (q2.mp z)
      rw [if_pos k1, if_pos k1, if_pos k1, if_pos k1, if_neg k2, if_neg k2]
      exact Or.inl ⟨rfl, rfl, rfl, rfl, rfl⟩
  · have c1 : rX5_in vt.toInt64 1 99 = 0 := by rw [in0, l1, l2]; exact c
    rw [if_pos c1, if_pos c1]
    by_cases c2 : vt < 1
    · rw [if_pos c2, if_pos c2, if_pos c2, if_pos c2]
      exact Or.inl ⟨rfl, rfl, rfl, rfl, rfl⟩
    · have c3 : ¬ vt ≤ 99 := by
        rw [Int32.lt_iff_toInt_lt, i1] at c2
        rw [Int32.le_iff_toInt_le, i2]
        omega
      rw [if_neg c2, if_neg c2, if_neg c2, if_neg c2, if_neg c3, if_neg c3, if_neg c3, if_neg c3]
      exact Or.inl ⟨rfl, rfl, rfl, rfl, rfl⟩
theorem an_discharge {T S : Nat} {N : jm_T} {X : jx_T} (h : mrF T S N (jx_al X)) (hT : T ≤ 99999) (Hs : jh_T) (F : jf_T) (nh : Nat) : dd N Hs F X nh (rX4_discharge N Hs F) (sX4_discharge_1 N Hs F) (sX4_discharge_2 N Hs F) (sX4_discharge_3 N Hs F) (rX5_discharge X nh) (sX5_discharge X nh) := by
  have h' : mrF T S N (jx_al (lx_chg X nh)) := h
  obtain ⟨p1, p2⟩ := st_dis h'
  exact Or.inr ⟨p2.symm, rfl, rfl, xr_ual (lx_chg X nh) _, T, S, hT, p1⟩
theorem an_wipeDisc {T S : Nat} {N : jm_T} {X : jx_T} (h : mrF T S N (jx_al X)) (hT : T ≤ 99999) (Hs : jh_T) (F : jf_T) (nh : Nat) (vd : Int32) : dd N Hs F X nh (rX4_wipeDisc N Hs F vd) (sX4_wipeDisc_1 N Hs F vd) (sX4_wipeDisc_2 N Hs F vd) (sX4_wipeDisc_3 N Hs F vd) (rX5_wipeDisc X vd) (sX5_wipeDisc X vd nh) := by
  unfold rX4_wipeDisc sX4_wipeDisc_1 sX4_wipeDisc_2 sX4_wipeDisc_3 rX5_wipeDisc sX5_wipeDisc
  dsimp only
  rcases two_or vd with ⟨d, hd, e⟩ | e
  · rw [e, if_pos (nod hd), if_pos (nod hd), if_pos (nod hd), if_pos (nod hd), if_neg (isd hd), if_neg (isd hd)]
    obtain ⟨p1, p2⟩ := st_wipe h hd
    exact Or.inr ⟨p2.symm, rfl, rfl, xr_ual (lx_chg X nh) _, T, S, hT, p1⟩
  · rw [if_neg (nod' e), if_neg (nod' e), if_neg (nod' e), if_neg (nod' e), if_pos (isd' e), if_pos (isd' e)]
    exact Or.inl ⟨rfl, rfl, rfl, rfl, rfl⟩
/-! ===== a setting is set ===== -/
def szl : Nat → Int := fun i => if i = 2 then 1 else if i = 4 then 100 else 0
def szh : Nat → Int := fun i => if i = 0 then 32 else if i = 2 then 200 else if i = 4 then 2000 else 60
theorem jz_lT : ∀ i, i < 5 → (jz_lo i).toInt = szl i := by decide
theorem jz_hT : ∀ i, i < 5 → (jz_hi i).toInt = szh i := by decide
theorem set_is (X : jx_T) (i : Nat) (hi : i < 5) (v : Int32) : rX5_isSetting X (nI i) v = 0 ↔ ¬ (szl i ≤ v.toInt ∧ v.toInt ≤ szh i) := by
  have a32 : (32 : Int64).toInt = 32 := by decide
  have a60 : (60 : Int64).toInt = 60 := by decide
  have a1 : (1 : Int64).toInt = 1 := by decide
  have a200 : (200 : Int64).toInt = 200 := by decide
  have a100 : (100 : Int64).toInt = 100 := by decide
  have a2000 : (2000 : Int64).toInt = 2000 := by decide
  rcases (show i = 0 ∨ i = 1 ∨ i = 2 ∨ i = 3 ∨ i = 4 by omega) with q | q | q | q | q <;> subst q
  · show rX5_in v.toInt64 0 32 = 0 ↔ ¬ (0 ≤ v.toInt ∧ v.toInt ≤ 32)
    rw [in0, l64_0, a32]
  · show rX5_in v.toInt64 0 60 = 0 ↔ ¬ (0 ≤ v.toInt ∧ v.toInt ≤ 60)
    rw [in0, l64_0, a60]
  · show rX5_in v.toInt64 1 200 = 0 ↔ ¬ (1 ≤ v.toInt ∧ v.toInt ≤ 200)
    rw [in0, a1, a200]
  · show rX5_in v.toInt64 0 60 = 0 ↔ ¬ (0 ≤ v.toInt ∧ v.toInt ≤ 60)
    rw [in0, l64_0, a60]
  · show rX5_in v.toInt64 100 2000 = 0 ↔ ¬ (100 ≤ v.toInt ∧ v.toInt ≤ 2000)
    rw [in0, a100, a2000]
theorem set_no (X : jx_T) (i v : Int32) (h : i.toInt < 0 ∨ 5 ≤ i.toInt) : rX5_isSetting X i v = 0 := by
  have n0 : ¬ i = 0 := fun e => by rw [e] at h; revert h; decide
  have n1 : ¬ i = 1 := fun e => by rw [e] at h; revert h; decide
  have n2 : ¬ i = 2 := fun e => by rw [e] at h; revert h; decide
  have n3 : ¬ i = 3 := fun e => by rw [e] at h; revert h; decide
  have n4 : ¬ i = 4 := fun e => by rw [e] at h; revert h; decide
  unfold rX5_isSetting
  dsimp only
  rw [if_neg n0, if_neg n1, if_neg n2, if_neg n3, if_neg n4]
theorem st_set {T S i : Nat} {N : jm_T} {X : jx_T} (h : mrF T S N (jx_al X)) (hi : i < 5) {v : Int32} (hv : szl i ≤ v.toInt ∧ v.toInt ≤ szh i) (h4 : i = 4 → ∀ j, j < 2 → -v.toInt ≤ (jm_ja N j).toInt ∧ (jm_ja N j).toInt ≤ v.toInt) : mrF T S (jm_use N (upd (jm_se N) i v)) (upd (jx_al X) i v) := by
  obtain ⟨⟨h1, h2, h3, h4', h5, h6, h7, h8, h9⟩, e7, e8⟩ := h
  have off : ∀ j, 5 ≤ j → upd (jx_al X) i v j = jx_al X j := fun j hj => pk_un (by omega)
  refine ⟨⟨h1, ?_, ⟨(off 5 (by omega)).trans h3.1, (off 6 (by omega)).trans h3.2.1, (off 9 (by omega)).trans h3.2.2.1, (off 10 (by omega)).trans h3.2.2.2.1, (off 11 (by omega)).trans h3.2.2.2.2⟩, fun c hc => (off _ (by omega)).trans (h4' c hc), fun j hj => ⟨(off _ (by omega)).trans (h5 j hj).1, (off _ (by omega)).trans (h5 j hj).2.1, (off _ (by omega)).trans (h5 j hj).2.2⟩, ⟨(off 12 (by omega)).trans h6.1, fun k hk w hw => (off _ (by omega)).trans (h6.2 k hk w hw)⟩, ?_, h8, ?_⟩, (off 7 (by omega)).trans e7, (off 8 (by omega)).trans e8⟩
  · intro j hj
    show upd (jx_al X) i v j = upd (jm_se N) i v j
    by_cases q : j = i
    · rw [q, pk_us, pk_us]
    · rw [pk_un q, pk_un q]
      exact h2 j hj
  · show rgs (upd (jm_se N) i v)
    obtain ⟨r0, r1, r2, r3, r4⟩ := h7
    rcases (show i = 0 ∨ i = 1 ∨ i = 2 ∨ i = 3 ∨ i = 4 by omega) with q | q | q | q | q <;> subst q
    · exact ⟨hv, r1, r2, r3, r4⟩
    · exact ⟨r0, hv, r2, r3, r4⟩
    · exact ⟨r0, r1, hv, r3, r4⟩
    · exact ⟨r0, r1, r2, hv, r4⟩
    · exact ⟨r0, r1, r2, r3, hv⟩
  · show rgj (upd (jm_se N) i v) (jm_ja N)
    intro j hj
    show -(upd (jm_se N) i v 4).toInt ≤ (jm_ja N j).toInt ∧ (jm_ja N j).toInt ≤ (upd (jm_se N) i v 4).toInt
    by_cases q : i = 4
    · rw [q, pk_us]
      exact h4 q j hj
    · rw [pk_un (by omega)]
      exact h9 j hj
theorem full_T {T S : Nat} {N : jm_T} {f : Nat → Int32} (h : mrA T S N f) : (rX2_fullestJar N).toInt = max (max (jm_ja N 0).toInt (-(jm_ja N 0).toInt)) (max (jm_ja N 1).toInt (-(jm_ja N 1).toInt)) := by
  have r := h.2.2.2.2.2.2
  have r4 := r.1.2.2.2.2
  have j0 := r.2.2 0 (by omega)
  have j1 := r.2.2 1 (by omega)
  have ab : ∀ x : Int32, -2000 ≤ x.toInt ∧ x.toInt ≤ 2000 → (if 0 ≤ x then x else 0 - x).toInt = max x.toInt (-x.toInt) := by
    intro x hx
    by_cases c : 0 ≤ x
    · rw [if_pos c]
      rw [Int32.le_iff_toInt_le, Int32.toInt_zero] at c
      omega
    · rw [if_neg c, jk_subT (by rw [Int32.toInt_zero]; omega) (by rw [Int32.toInt_zero]; omega), Int32.toInt_zero]
      rw [Int32.le_iff_toInt_le, Int32.toInt_zero] at c
      omega
  show (if (if 0 ≤ jm_ja N 0 then jm_ja N 0 else 0 - jm_ja N 0) < (if 0 ≤ jm_ja N 1 then jm_ja N 1 else 0 - jm_ja N 1) then (if 0 ≤ jm_ja N 1 then jm_ja N 1 else 0 - jm_ja N 1) else (if 0 ≤ jm_ja N 0 then jm_ja N 0 else 0 - jm_ja N 0)).toInt = _
  rw [mx_T, ab _ (by omega), ab _ (by omega)]
theorem an_set {T S : Nat} {N : jm_T} {X : jx_T} (h : mrF T S N (jx_al X)) (hT : T ≤ 99999) (Hs : jh_T) (F : jf_T) (nh : Nat) (vi vv : Int32) : dd N Hs F X nh (rX4_set N Hs F vi vv) (sX4_set_1 N Hs F vi vv) (sX4_set_2 N Hs F vi vv) (sX4_set_3 N Hs F vi vv) (rX5_set X vi vv nh) (sX5_set X vi vv nh) := by
  have i5 : (5 : Int32).toInt = 5 := by decide
  unfold rX4_set sX4_set_1 sX4_set_2 sX4_set_3 rX5_set sX5_set
  dsimp only
  by_cases c : vi.toInt < 0 ∨ 5 ≤ vi.toInt
  · have c1 := set_no X vi vv c
    rw [if_pos c1, if_pos c1]
    by_cases c2 : vi < 0
    · rw [if_pos c2, if_pos c2, if_pos c2, if_pos c2]
      exact Or.inl ⟨rfl, rfl, rfl, rfl, rfl⟩
    · have c3 : ¬ vi < 5 := by
        rw [Int32.lt_iff_toInt_lt, Int32.toInt_zero] at c2
        rw [Int32.lt_iff_toInt_lt, i5]
        omega
      rw [if_neg c2, if_neg c2, if_neg c2, if_neg c2, if_neg c3, if_neg c3, if_neg c3, if_neg c3]
      exact Or.inl ⟨rfl, rfl, rfl, rfl, rfl⟩
  · obtain ⟨i, hi, ei⟩ := rgN (x := vi) (n := 5) (by omega) (by omega) (by omega)
    have c2 : ¬ vi < 0 := by rw [Int32.lt_iff_toInt_lt, Int32.toInt_zero]; omega
    have c3 : vi < 5 := by rw [Int32.lt_iff_toInt_lt, i5]; omega
    rw [if_neg c2, if_neg c2, if_neg c2, if_neg c2, if_pos c3, if_pos c3, if_pos c3, if_pos c3, ei, jk_cl (by omega)]
    have hs := set_is X i hi vv
    by_cases d : szl i ≤ vv.toInt ∧ vv.toInt ≤ szh i
    · have d1 : ¬ rX5_isSetting X (nI i) vv = 0 := fun z => hs.mp z d
      have d2 : ¬ vv < jz_lo i := by rw [Int32.lt_iff_toInt_lt, jz_lT i hi]; omega
      have d3 : vv ≤ jz_hi i := by rw [Int32.le_iff_toInt_le, jz_hT i hi]; omega
      rw [if_neg d1, if_neg d1, if_neg d2, if_neg d2, if_neg d2, if_neg d2, if_pos d3, if_pos d3, if_pos d3, if_pos d3]
      by_cases e : i = 4
      · subst e
        have e4 : nI 4 = 4 := rfl
        rw [if_pos e4, if_pos e4, if_pos e4, if_pos e4, if_pos e4, if_pos e4]
        have dv : 100 ≤ vv.toInt ∧ vv.toInt ≤ 2000 := d
        have en : (-vv).toInt = -vv.toInt := by
          rw [Int32.toInt_neg]
          exact Int.bmod_eq_of_le (by omega) (by omega)
        have a0 : jx_al X 37 = jm_ja N 0 := (h.1.2.2.2.2.1 0 (by omega)).1
        have a1 : jx_al X 38 = jm_ja N 1 := (h.1.2.2.2.2.1 1 (by omega)).1
        have fT := full_T h.1
        have q0 : rX5_in (jx_al X 37).toInt64 (-vv).toInt64 vv.toInt64 = 0 ↔ ¬ (-vv.toInt ≤ (jm_ja N 0).toInt ∧ (jm_ja N 0).toInt ≤ vv.toInt) := by
          rw [in0, Int32.toInt_toInt64, Int32.toInt_toInt64, en, a0]
        have q1 : rX5_in (jx_al X 38).toInt64 (-vv).toInt64 vv.toInt64 = 0 ↔ ¬ (-vv.toInt ≤ (jm_ja N 1).toInt ∧ (jm_ja N 1).toInt ≤ vv.toInt) := by
          rw [in0, Int32.toInt_toInt64, Int32.toInt_toInt64, en, a1]
        have q2 : rX2_fullestJar N ≤ vv ↔ (-vv.toInt ≤ (jm_ja N 0).toInt ∧ (jm_ja N 0).toInt ≤ vv.toInt) ∧ (-vv.toInt ≤ (jm_ja N 1).toInt ∧ (jm_ja N 1).toInt ≤ vv.toInt) := by
          rw [Int32.le_iff_toInt_le, fT]
          omega
        by_cases k0 : rX5_in (jx_al X 37).toInt64 (-vv).toInt64 vv.toInt64 = 0
        · have k2 : ¬ rX2_fullestJar N ≤ vv := fun z => q0.mp k0 (q2.mp z).1
          rw [if_pos k0, if_pos k0, if_neg k2, if_neg k2, if_neg k2, if_neg k2]
          exact Or.inl ⟨rfl, rfl, rfl, rfl, rfl⟩
        · rw [if_neg k0, if_neg k0]
          by_cases k1 : rX5_in (jx_al X 38).toInt64 (-vv).toInt64 vv.toInt64 = 0
          · have k2 : ¬ rX2_fullestJar N ≤ vv := fun z => q1.mp k1 (q2.mp z).2
            rw [if_pos k1, if_pos k1, if_neg k2, if_neg k2, if_neg k2, if_neg k2]
            exact Or.inl ⟨rfl, rfl, rfl, rfl, rfl⟩
          · have z0 := Decidable.not_not.mp (fun z => k0 (q0.mpr z))
            have z1 := Decidable.not_not.mp (fun z => k1 (q1.mpr z))
            have k2 : rX2_fullestJar N ≤ vv := q2.mpr ⟨z0, z1⟩
            rw [if_neg k1, if_neg k1, if_pos k2, if_pos k2, if_pos k2, if_pos k2]
            refine Or.inr ⟨(h.1.2.1 4 (by omega)).symm, rfl, rfl, xr_ual (lx_chg X nh) _, T, S, hT, st_set h (by omega) d (fun _ j hj => ?_)⟩
            rcases (show j = 0 ∨ j = 1 by omega) with q | q <;> subst q
            · exact z0
            · exact z1
      · have e4 : ¬ nI i = 4 := by
          rw [show (4 : Int32) = nI 4 from rfl, nI_eq (by omega) (by omega)]
          exact e
        rw [if_neg e4, if_neg e4, if_neg e4, if_neg e4, if_neg e4, if_neg e4]
        exact Or.inr ⟨(h.1.2.1 i hi).symm, rfl, rfl, xr_ual (lx_chg X nh) _, T, S, hT, st_set h hi d (fun z => absurd z e)⟩
    · have d1 := hs.mpr d
      rw [if_pos d1, if_pos d1]
      by_cases d2 : vv < jz_lo i
      · rw [if_pos d2, if_pos d2, if_pos d2, if_pos d2]
        exact Or.inl ⟨rfl, rfl, rfl, rfl, rfl⟩
      · have d3 : ¬ vv ≤ jz_hi i := by
          rw [Int32.lt_iff_toInt_lt, jz_lT i hi] at d2
          rw [Int32.le_iff_toInt_le, jz_hT i hi]
          omega
        rw [if_neg d2, if_neg d2, if_neg d2, if_neg d2, if_neg d3, if_neg d3, if_neg d3, if_neg d3]
        exact Or.inl ⟨rfl, rfl, rfl, rfl, rfl⟩
