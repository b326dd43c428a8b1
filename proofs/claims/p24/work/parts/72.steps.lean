/-! ===== a step of both objects ===== -/
theorem oS_eta (S : oS) : (oN S, oF S, oG S, oH S, oQ S, oP S) = S := rfl
/-- both jars would bear the setting HOLD -/
def canH (N : jm_T) (v : Int32) : Prop := rX4_jar N 0 0 ≤ v ∧ -v ≤ rX4_jar N 0 0 ∧ rX4_jar N 1 0 ≤ v ∧ -v ≤ rX4_jar N 1 0
theorem full_can {N : jm_T} (h : bdd N) {v : Int32} (h1 : 100 ≤ v.toInt) (h2 : v.toInt ≤ 2000) : rX2_fullestJar N ≤ v ↔ canH N v := by
  have e0 : rX4_jar N 0 0 = jm_ja N 0 := rfl
  have e1 : rX4_jar N 1 0 = jm_ja N 1 := rfl
  have en : (-v).toInt = -v.toInt := nq_T (by omega)
  unfold canH
  rw [e0, e1]
  simp only [Int32.le_iff_toInt_le]
  rw [full_T h, en]
  omega
theorem st_set {k : Nat} {S S' : oS} (h : rel k S S') (hk : k < 900) {i : Nat} (hi : i < 5) {v : Int32} (h1 : szl i ≤ v.toInt) (h2 : v.toInt ≤ szh i) : rX4_set (oN S) (oH S) (oF S) (nI i) v = rX4_set (oN S') (oH S') (oF S') (nI i) v ∧ rel (k + 1) (oset S (nI i) v) (oset S' (nI i) v) ∧ ((i = 4 → canH (oN S) v) → rX4_set (oN S) (oH S) (oF S) (nI i) v = rX4_count (oN S) (oH S) (oP S) (nI i)) ∧ (i = 4 → ¬ canH (oN S) v → rX4_set (oN S) (oH S) (oF S) (nI i) v = -1000005) := by
  have hT := h.1.1
  obtain ⟨T, U, -, -, -, -, hb, -⟩ := id hT
  have eN := h.2.1
  have fe : rX2_fullestJar (oN S') = rX2_fullestJar (oN S) := by rw [eN]; exact full_ng hb
  have fc : i = 4 → (rX2_fullestJar (oN S) ≤ v ↔ canH (oN S) v) := fun q => by
    subst q
    exact full_can hb h1 h2
  have cs := cnt_se (oN S) (oH S) (oP S) hi
  have es : jm_se (oN S') = jm_se (oN S) := by rw [eN]; rfl
  unfold oset
  rcases set_at (N := oN S) (Hs := oH S) (F := oF S) hi h1 h2 with ⟨a1, a2, a3, a4, a5, a6⟩ | ⟨a1, a2, a3, a4, a5⟩
  · rcases set_at (N := oN S') (Hs := oH S') (F := oF S') hi h1 h2 with ⟨b1, b2, b3, b4, b5, b6⟩ | ⟨b1, b2, b3, b4, b5⟩
    · rw [a3, a4, a5, a6, b3, b4, b5, b6]
      exact ⟨rfl, h.up, fun z => absurd ((fc a1).mpr (z a1)) a2, fun _ _ => rfl⟩
    · exact absurd (by rw [← fe]; exact b1 a1) a2
  · rcases set_at (N := oN S') (Hs := oH S') (F := oF S') hi h1 h2 with ⟨b1, b2, b3, b4, b5, b6⟩ | ⟨b1, b2, b3, b4, b5⟩
    · exact absurd (by rw [fe]; exact a1 b1) b2
    · rw [a2, a3, a4, a5, b2, b3, b4, b5, es, cs]
      exact ⟨rfl, h.recS hk ((set_K hT hi h1 h2 a1).up (by omega)) (by rw [eN]; exact set_ng _ i v), fun _ => rfl, fun q z => absurd ((fc q).mp (a1 q)) z⟩
theorem turn_at {K : Nat} {N : jm_T} {Hs : jh_T} {F : jf_T} (h : Tst K N) (hK : K < 99900) {n : Nat} (h1 : 1 ≤ n) (h2 : n ≤ 99) : rX4_turn N Hs F (nI n) = jm_sp (lp_turn N n) - jm_sp N ∧ sX4_turn_1 N Hs F (nI n) = lp_turn N n ∧ sX4_turn_2 N Hs F (nI n) = jh_rec Hs ∧ sX4_turn_3 N Hs F (nI n) = jf_u F (jh_ix Hs).toNatClampNeg N := by
  obtain ⟨T, U, hT, -, e, -⟩ := h
  have a1 : ¬ nI n < 1 := by rw [Int32.lt_iff_toInt_lt, nI_toInt (by omega), show (1 : Int32).toInt = 1 by decide]; omega
  have a2 : nI n ≤ 99 := by rw [Int32.le_iff_toInt_le, nI_toInt (by omega), c99.1]; omega
  have a3 : rX2_hasTurnsLeft N (nI n) = 1 := by
    unfold rX2_hasTurnsLeft
    rw [e, nI_add, if_neg]
    rw [Int32.lt_iff_toInt_lt, nI_toInt (by omega), show (99999 : Int32).toInt = 99999 by decide]
    omega
  have a4 : ¬ (1 : Int32) = 0 := by decide
  have ec : (nI n).toNatClampNeg = n := jk_cl (by omega)
  unfold rX4_turn sX4_turn_1 sX4_turn_2 sX4_turn_3
  dsimp only
  simp only [if_neg a1, if_pos a2, a3, if_neg a4, ec]
  exact ⟨trivial, trivial, trivial, trivial⟩
theorem st_turn {k : Nat} {S S' : oS} (h : rel k S S') (hk : k < 900) {n : Nat} (h1 : 1 ≤ n) (h2 : n ≤ 99) : rX4_turn (oN S) (oH S) (oF S) (nI n) = rX4_ifTurned (oN S) jm_0 (nI n) 0 ∧ rX4_turn (oN S') (oH S') (oF S') (nI n) = rX4_ifTurned (oN S) jm_0 (nI n) 0 ∧ (∀ (Hs Hs' : jh_T) (P P' : jp_T), rX4_count (oN (oturn S (nI n))) Hs P 5 = rX4_count (oN S) Hs' P' 5 + nI n ∧ rX4_count (oN (oturn S (nI n))) Hs P 6 = rX4_count (oN S) Hs' P' 6 + rX4_ifTurned (oN S) jm_0 (nI n) 0) ∧ rel (k + 1) (oturn S (nI n)) (oturn S' (nI n)) ∧ oN (oturn S (nI n)) = lp_turn (oN S) n := by
  have hT := h.1.1
  have eN := h.2.1
  have hT' : Tst (99 * k) (oN S) := hT
  obtain ⟨i0, -⟩ := ift_at (oN S) jm_0 h1 (show n ≤ 400 by omega)
  obtain ⟨t1, t2, -, -, -, t6, -⟩ := turn_K hT n (by omega)
  obtain ⟨a1, a2, a3, a4⟩ := turn_at (Hs := oH S) (F := oF S) hT (by omega) h1 h2
  have hTp : ∃ T, jm_tu (oN S') = nI T ∧ T ≤ 99 * k := by
    obtain ⟨T, U, q1, -, q3, -⟩ := hT
    exact ⟨T, by rw [eN]; exact q3, q1⟩
  have b : rX4_turn (oN S') (oH S') (oF S') (nI n) = jm_sp (lp_turn (oN S') n) - jm_sp (oN S') ∧ sX4_turn_1 (oN S') (oH S') (oF S') (nI n) = lp_turn (oN S') n ∧ sX4_turn_2 (oN S') (oH S') (oF S') (nI n) = jh_rec (oH S') ∧ sX4_turn_3 (oN S') (oH S') (oF S') (nI n) = jf_u (oF S') (jh_ix (oH S')).toNatClampNeg (oN S') := by
    obtain ⟨T, e, hT⟩ := hTp
    have a1 : ¬ nI n < 1 := by rw [Int32.lt_iff_toInt_lt, nI_toInt (by omega), show (1 : Int32).toInt = 1 by decide]; omega
    have a2 : nI n ≤ 99 := by rw [Int32.le_iff_toInt_le, nI_toInt (by omega), c99.1]; omega
    have a3 : rX2_hasTurnsLeft (oN S') (nI n) = 1 := by
      unfold rX2_hasTurnsLeft
      rw [e, nI_add, if_neg]
      rw [Int32.lt_iff_toInt_lt, nI_toInt (by omega), show (99999 : Int32).toInt = 99999 by decide]
      omega
    have a4 : ¬ (1 : Int32) = 0 := by decide
    have ec : (nI n).toNatClampNeg = n := jk_cl (by omega)
    unfold rX4_turn sX4_turn_1 sX4_turn_2 sX4_turn_3
    dsimp only
    simp only [if_neg a1, if_pos a2, a3, if_neg a4, ec]
    exact ⟨trivial, trivial, trivial, trivial⟩
  obtain ⟨b1, b2, b3, b4⟩ := b
  have eo : oturn S (nI n) = orc S (lp_turn (oN S) n) := by
    unfold oturn
    rw [a2, a3, a4]
    rfl
  have eo' : oturn S' (nI n) = orc S' (lp_turn (oN S') n) := by
    unfold oturn
    rw [b2, b3, b4]
    rfl
  have e2 : lp_turn (oN S') n = ng (lp_turn (oN S) n) := by rw [eN]; exact t2
  rw [a1, b1, i0, eo, eo']
  refine ⟨rfl, ?_, fun Hs Hs' P P' => ⟨t6, ?_⟩, h.recS hk (t1.up (by omega)) e2, rfl⟩
  · rw [e2, eN]
    rfl
  · show jm_sp (lp_turn (oN S) n) = jm_sp (oN S) + (jm_sp (lp_turn (oN S) n) - jm_sp (oN S))
    grind
theorem st_dis {k : Nat} {S S' : oS} (h : rel k S S') (hk : k < 900) : rX4_discharge (oN S) (oH S) (oF S) = rX2_difference (oN S) ∧ rX4_discharge (oN S') (oH S') (oF S') = rX2_difference (oN S) ∧ (∀ (Hs Hs' : jh_T) (P P' : jp_T), rX4_count (oN (odis S)) Hs P 12 = rX4_count (oN S) Hs' P' 12 + (rX4_jar (oN S) 0 0 + rX4_jar (oN S) 1 0) ∧ rX4_count (oN (odis S)) Hs P 8 = 0) ∧ rX4_jar (oN (odis S)) 0 0 = 0 ∧ rX4_jar (oN (odis S)) 1 0 = 0 ∧ rel (k + 1) (odis S) (odis S') := by
  have hT := h.1.1
  obtain ⟨T, U, -, -, -, -, hb, -⟩ := id hT
  have eN := h.2.1
  refine ⟨rfl, ?_, fun Hs _ P _ => ⟨rfl, (show rX4_count (oN (odis S)) Hs P 8 = rJ6_signum_0f7a4 (0 - 0) from rfl).trans (by decide)⟩, rfl, rfl, h.recS (M := sX2_emptyJars (oN S)) (M' := sX2_emptyJars (oN S')) hk ((emp_K hT).up (by omega)) (by rw [eN]; exact emp_ng _)⟩
  show rX2_difference (oN S') = _
  rw [eN, dif_ng hb]
theorem wipe_at (N : jm_T) (Hs : jh_T) (F : jf_T) {d : Nat} (hd : d < 2) : rX4_wipeDisc N Hs F (nI d) = rX4_disc N (nI d) 1 + rX4_disc N (nI d) 2 ∧ sX4_wipeDisc_1 N Hs F (nI d) = wpM N d ∧ sX4_wipeDisc_2 N Hs F (nI d) = jh_rec Hs ∧ sX4_wipeDisc_3 N Hs F (nI d) = jf_u F (jh_ix Hs).toNatClampNeg N := by
  obtain ⟨-, a1, a2, -, -⟩ := disc_at N hd
  unfold rX4_wipeDisc sX4_wipeDisc_1 sX4_wipeDisc_2 sX4_wipeDisc_3
  dsimp only
  rw [nod hd, a1, a2]
  exact ⟨rfl, rfl, rfl, rfl⟩
theorem st_wipe {k : Nat} {S S' : oS} (h : rel k S S') (hk : k < 900) {d : Nat} (hd : d < 2) : rX4_wipeDisc (oN S) (oH S) (oF S) (nI d) = rX4_disc (oN S) (nI d) 1 + rX4_disc (oN S) (nI d) 2 ∧ rX4_wipeDisc (oN S') (oH S') (oF S') (nI d) = rX4_disc (oN S) (nI d) 1 + rX4_disc (oN S) (nI d) 2 ∧ (∀ (Hs Hs' : jh_T) (P P' : jp_T), rX4_count (oN (owipe S (nI d))) Hs P 12 = rX4_count (oN S) Hs' P' 12 + rX4_disc (oN S) (nI d) 0) ∧ rX4_disc (oN (owipe S (nI d))) (nI d) 3 = 0 ∧ rX4_disc (oN (owipe S (nI d))) (nI d) 4 = 0 ∧ rel (k + 1) (owipe S (nI d)) (owipe S' (nI d)) := by
  have hT := h.1.1
  obtain ⟨T, U, -, -, -, -, hb, -⟩ := id hT
  have eN := h.2.1
  obtain ⟨a1, a2, a3, a4⟩ := wipe_at (oN S) (oH S) (oF S) hd
  obtain ⟨b1, b2, b3, b4⟩ := wipe_at (oN S') (oH S') (oF S') hd
  have eo : owipe S (nI d) = orc S (wpM (oN S) d) := by
    unfold owipe
    rw [a2, a3, a4]
    rfl
  have eo' : owipe S' (nI d) = orc S' (wpM (oN S') d) := by
    unfold owipe
    rw [b2, b3, b4]
    rfl
  obtain ⟨n0, n1, n2, -, -⟩ := disc_ng hb hd
  obtain ⟨d0, -, -, -, -⟩ := disc_at (oN S) hd
  obtain ⟨-, -, -, d3, d4⟩ := disc_at (wpM (oN S) d) hd
  have z : ∀ i, 12 * d ≤ i → i < 12 * d + 12 → jm_ch (wpM (oN S) d) i = 0 := by
    intro i q1 q2
    show lp_zero (jm_ch (oN S)) (rX2_firstIndexOf (nI d)) 12 i = 0
    rw [lpz_eq _ hd]
    exact if_pos ⟨q1, q2⟩
  obtain ⟨m1, m2⟩ := max_0 hd z 11 (by omega)
  rw [a1, b1, eo, eo']
  refine ⟨rfl, ?_, fun Hs Hs' P P' => ?_, ?_, ?_, h.recS hk ((wp_K hT hd).up (by omega)) (by rw [eN]; exact wp_ng _ hd)⟩
  · rw [eN, n1, n2, Int32.add_comm]
  · show jm_to (oN S) + lp_sum (jm_ch (oN S)) (rX2_firstIndexOf (nI d)) 12 = jm_to (oN S) + rX4_disc (oN S) (nI d) 0
    rw [d0, lps_ds _ hd]
  · show rX4_disc (wpM (oN S) d) (nI d) 3 = 0
    rw [d3, fid hd]
    exact Int32.toInt_inj.mp (m1.trans Int32.toInt_zero.symm)
  · show rX4_disc (wpM (oN S) d) (nI d) 4 = 0
    rw [d4, fid hd]
    exact Int32.toInt_inj.mp (m2.trans Int32.toInt_zero.symm)
theorem touch_at {N : jm_T} {Hs : jh_T} {F : jf_T} {d p : Nat} (hd : d < 2) (hp : p < 12) {x : Int32} (hx : r99 x) : rX4_touch N Hs F (nI d) (nI p) x = rX2_putCharge N (nI d) (nI p) x ∧ sX4_touch_1 N Hs F (nI d) (nI p) x = sX2_putCharge N (nI d) (nI p) x ∧ sX4_touch_2 N Hs F (nI d) (nI p) x = jh_rec Hs ∧ sX4_touch_3 N Hs F (nI d) (nI p) x = jf_u F (jh_ix Hs).toNatClampNeg N := by
  have a1 : ¬ x < -99 := by rw [Int32.lt_iff_toInt_lt, c99.2]; have := hx.1; omega
  have a2 : x ≤ 99 := by rw [Int32.le_iff_toInt_le, c99.1]; exact hx.2
  unfold rX4_touch sX4_touch_1 sX4_touch_2 sX4_touch_3
  dsimp only
  simp only [nod hd, npl hp, if_neg a1, if_pos a2]
  exact ⟨rfl, rfl, rfl, rfl⟩
theorem st_touch {k : Nat} {S S' : oS} (h : rel k S S') (hk : k < 900) {d p : Nat} (hd : d < 2) (hp : p < 12) {x : Int32} (hx : r99 x) : rX4_touch (oN S) (oH S) (oF S) (nI d) (nI p) x = rX4_sector (oN S) (nI d) (nI p) ∧ rX4_sector (oN (otouch S (nI d) (nI p) x)) (nI d) (nI p) = x ∧ (∀ (Hs Hs' : jh_T) (P P' : jp_T), rX4_count (oN (otouch S (nI d) (nI p) x)) Hs P 11 = rX4_count (oN S) Hs' P' 11 + x - rX4_sector (oN S) (nI d) (nI p)) ∧ ∀ Q P, padok P → rel (k + 1) (otouch S (nI d) (nI p) x) (sX2_putCharge (oN S') (nI d) (nI p) (-x), jf_u (oF S') (jh_ix (oH S')).toNatClampNeg (oN S'), oG S', jh_rec (oH S'), Q, P) := by
  have hT := h.1.1
  obtain ⟨T, U, t1, -, t3, -⟩ := id hT
  have eN := h.2.1
  obtain ⟨a1, a2, a3, a4⟩ := touch_at (N := oN S) (Hs := oH S) (F := oF S) hd hp hx
  obtain ⟨p1, p2⟩ := put_T t3 (by omega) hd hp x
  have se := sec_at t3 (by omega) hd hp
  have eo : otouch S (nI d) (nI p) x = orc S (sX2_putCharge (oN S) (nI d) (nI p) x) := by
    unfold otouch
    rw [a2, a3, a4]
    rfl
  rw [a1, p1, se, eo]
  refine ⟨rfl, ?_, fun Hs Hs' P P' => ?_, fun Q P hP => ?_⟩
  · show rX4_sector (sX2_putCharge (oN S) (nI d) (nI p) x) (nI d) (nI p) = x
    rw [p2, sec_at (N := jm_upo (jm_uch (oN S) (upd (jm_ch (oN S)) (sg T (12 * d + p)) x)) (jm_po (oN S) + (x - jm_ch (oN S) (sg T (12 * d + p))))) t3 (by omega) hd hp]
    exact pk_us
  · show jm_po (sX2_putCharge (oN S) (nI d) (nI p) x) = jm_po (oN S) + x - jm_ch (oN S) (sg T (12 * d + p))
    rw [p2]
    show jm_po (oN S) + (x - jm_ch (oN S) (sg T (12 * d + p))) = _
    grind
  · have e := put_ng t3 (by omega) hd hp x
    rw [← eN] at e
    rw [e]
    exact h.rec hk ((put_K hT (by omega) hd hp hx).up (by omega)) hP
/-! ===== one turn, place by place ===== -/
theorem sg_step {T c c' : Nat} (h : (c < 12 ∧ c' = (c + 11) % 12) ∨ (12 ≤ c ∧ c < 24 ∧ c' = 12 + (c - 12 + 1) % 12)) : sg (T + 1) c = sg T c' := by
  unfold sg
  rcases h with ⟨h1, h2⟩ | ⟨h1, h2, h3⟩
  · rw [if_pos h1, if_pos (by omega)]
    omega
  · rw [if_neg (by omega), if_neg (by omega)]
    omega
theorem st_once {K : Nat} {N : jm_T} (h : Tst K N) (h6 : K + 1 < 1000000) : Tst (K + 1) (sX2_turnOnce N) ∧ (∀ Hs P, rX4_count (sX2_turnOnce N) Hs P 1 = jm_se N 1) ∧ (∀ k, k < 12 → k ≠ 0 → k ≠ 6 → k ≠ 2 → k ≠ 8 → rX4_sector (sX2_turnOnce N) 0 (nI k) = rX4_sector N 0 (nI ((k + 11) % 12)) - rX4_sector N 0 (nI ((k + 11) % 12)) * jm_se N 1 / 100) ∧ (∀ k, k < 12 → k ≠ 0 → k ≠ 6 → k ≠ 4 → k ≠ 10 → rX4_sector (sX2_turnOnce N) 1 (nI k) = rX4_sector N 1 (nI ((k + 1) % 12)) - rX4_sector N 1 (nI ((k + 1) % 12)) * jm_se N 1 / 100) ∧ 0 ≤ jm_sp (sX2_turnOnce N) - jm_sp N := by
  obtain ⟨k1, -, k3, -⟩ := once_K h h6
  obtain ⟨T, U, t1, t2, t3, t4, t5, -, t7⟩ := h
  obtain ⟨U', u1, u2, u3, -, u5, -, u7⟩ := once_T t3 t4 t2 t5 t7 (by omega)
  obtain ⟨-, -, -, -, ac⟩ := ahead_T t3 t5 (by omega)
  have tO : jm_tu (sX2_turnOnce N) = nI (T + 1) := u3.2.2.2.2.1
  have at_ : ∀ c, c < 24 → offc c → jm_ch (sX2_turnOnce N) (sg (T + 1) c) = lkv (jm_se N 1) (jm_ch N (sg (T + 1) c)) := fun c a b => by rw [u7]; exact ac c a b
  refine ⟨k1, fun Hs P => ?_, fun k a0 a1 a2 a3 a4 => ?_, fun k a0 a1 a2 a3 a4 => ?_, ?_⟩
  · show jm_se (sX2_turnOnce N) 1 = _
    rw [k3]
  · have e1 : rX4_sector (sX2_turnOnce N) 0 (nI k) = jm_ch (sX2_turnOnce N) (sg (T + 1) (12 * 0 + k)) := sec_at tO (by omega) (show 0 < 2 by omega) a0
    have e2 : rX4_sector N 0 (nI ((k + 11) % 12)) = jm_ch N (sg T (12 * 0 + (k + 11) % 12)) := sec_at t3 (by omega) (show 0 < 2 by omega) (by omega)
    rw [e1, e2, show 12 * 0 + k = k by omega, show 12 * 0 + (k + 11) % 12 = (k + 11) % 12 by omega, at_ k (by omega) ⟨by omega, by omega, by omega, by omega, by omega, by omega, by omega, by omega⟩, sg_step (c := k) (c' := (k + 11) % 12) (Or.inl ⟨a0, rfl⟩)]
    rfl
  · have e1 : rX4_sector (sX2_turnOnce N) 1 (nI k) = jm_ch (sX2_turnOnce N) (sg (T + 1) (12 * 1 + k)) := sec_at tO (by omega) (show 1 < 2 by omega) a0
    have e2 : rX4_sector N 1 (nI ((k + 1) % 12)) = jm_ch N (sg T (12 * 1 + (k + 1) % 12)) := sec_at t3 (by omega) (show 1 < 2 by omega) (by omega)
    rw [e1, e2, show 12 * 1 + k = 12 + k by omega, show 12 * 1 + (k + 1) % 12 = 12 + (k + 1) % 12 by omega, at_ (12 + k) (by omega) ⟨by omega, by omega, by omega, by omega, by omega, by omega, by omega, by omega⟩, sg_step (c := 12 + k) (c' := 12 + (k + 1) % 12) (Or.inr ⟨by omega, by omega, by omega⟩)]
    rfl
  · rw [u5, t4, pk_sub (by omega), Int32.le_iff_toInt_le, Int32.toInt_zero, nI_toInt (by omega)]
    omega
theorem st_sums {K : Nat} {N : jm_T} (h : Tst K N) (h6 : K + 1 < 1000000) (Hs Hs' : jh_T) (P P' : jp_T) : rX4_count (sX2_turnOnce N) Hs P 9 = rX4_count N Hs' P' 9 - rX4_count (sX2_turnOnce N) Hs P 10 + rX4_count N Hs' P' 10 ∧ rX4_jar (sX2_turnOnce N) 0 0 + rX4_jar (sX2_turnOnce N) 1 0 = rX4_jar N 0 0 + rX4_jar N 1 0 + rX4_jar (sX2_turnOnce N) 0 1 + rX4_jar (sX2_turnOnce N) 1 1 - (rX4_jar N 0 1 + rX4_jar N 1 1) - rX4_jar (sX2_turnOnce N) 0 2 - rX4_jar (sX2_turnOnce N) 1 2 + (rX4_jar N 0 2 + rX4_jar N 1 2) := by
  obtain ⟨k1, -, -, k4, k5, -, k7⟩ := once_K h h6
  have w1 := (well_acc h Hs' P').1
  have w2 := (well_acc k1 Hs P).1
  have e11 : rX4_count (sX2_turnOnce N) Hs P 11 = rX4_count N Hs' P' 11 := k4
  have e12 : rX4_count (sX2_turnOnce N) Hs P 12 = rX4_count N Hs' P' 12 := k5
  rw [e11, e12] at w2
  refine ⟨by grind, ?_⟩
  have k7 : rX4_jar (sX2_turnOnce N) 0 0 + rX4_jar (sX2_turnOnce N) 1 0 - (rX4_jar (sX2_turnOnce N) 0 1 + rX4_jar (sX2_turnOnce N) 1 1) + (rX4_jar (sX2_turnOnce N) 0 2 + rX4_jar (sX2_turnOnce N) 1 2) = rX4_jar N 0 0 + rX4_jar N 1 0 - (rX4_jar N 0 1 + rX4_jar N 1 1) + (rX4_jar N 0 2 + rX4_jar N 1 2) := k7
  grind
