/-! ===== what an object holds; both objects, side by side ===== -/
theorem fm6 {a : Nat} (h : a < 1000000) : (rJ9_floorMod_7cf53 (nI a) 6).toNatClampNeg = a % 6 := by
  have e := jk_fm (nI a) 6 (by decide)
  rw [nI_toInt (by omega), show (6 : Int32).toInt = 6 by decide] at e
  show (rJ9_floorMod_7cf53 (nI a) 6).toInt.toNat = _
  rw [e]
  omega
theorem rec_6 {od : Nat} {Hs : jh_T} (h1 : jh_sz Hs = nI 6) (h2 : jh_ol Hs = nI od) (ho : od < 999900) : jh_sz (jh_rec Hs) = nI 6 ∧ jh_ol (jh_rec Hs) = nI (od + 1) ∧ (jh_ix Hs).toNatClampNeg = od % 6 := by
  refine ⟨?_, ?_, ?_⟩
  · rw [jh_rec6 h1]
    show jh_sz Hs - 1 + 1 = nI 6
    rw [h1]
    rfl
  · rw [jh_rec6 h1]
    show jh_ol Hs + 1 = nI (od + 1)
    rw [h2, show (1 : Int32) = nI 1 from rfl, nI_add]
  · rw [← jh_ix6 h1, h1, h2, show nI od + 1 + (nI 6 - 1) = nI (od + 6) by rw [show (1 : Int32) = nI 1 from rfl, pk_sub (by omega), nI_add, nI_add], fm6 (by omega)]
    omega
theorem rec_n {nh od : Nat} {Hs : jh_T} (hn : nh < 6) (h1 : jh_sz Hs = nI nh) (h2 : jh_ol Hs = nI od) (ho : od < 999900) : jh_sz (jh_rec Hs) = nI (nh + 1) ∧ jh_ol (jh_rec Hs) = nI od ∧ (jh_ix Hs).toNatClampNeg = (od + nh) % 6 := by
  have h6 : ¬ jh_sz Hs = 6 := by
    rw [h1, show (6 : Int32) = nI 6 from rfl, nI_eq (by omega) (by omega)]
    omega
  refine ⟨?_, ?_, ?_⟩
  · rw [jh_recn h6]
    show jh_sz Hs + 1 = nI (nh + 1)
    rw [h1, show (1 : Int32) = nI 1 from rfl, nI_add]
  · rw [jh_recn h6]
    exact h2
  · rw [← jh_ixn h6, h1, h2, nI_add, fm6 (by omega)]
abbrev oS : Type := jm_T × jf_T × jf_T × jh_T × jd_T × jp_T
def oN (S : oS) : jm_T := S.1
def oF (S : oS) : jf_T := S.2.1
def oG (S : oS) : jf_T := S.2.2.1
def oH (S : oS) : jh_T := S.2.2.2.1
def oQ (S : oS) : jd_T := S.2.2.2.2.1
def oP (S : oS) : jp_T := S.2.2.2.2.2
def orc (S : oS) (M : jm_T) : oS := (M, jf_u (oF S) (jh_ix (oH S)).toNatClampNeg (oN S), oG S, jh_rec (oH S), oQ S, oP S)
def fng (F : jf_T) : jf_T := fun i => (F i).map ng
theorem fng_u (F : jf_T) (j : Nat) (M : jm_T) : fng (jf_u F j M) = jf_u (fng F) j (ng M) := by
  funext i
  unfold fng jf_u
  by_cases c : i = j
  · rw [if_pos c, if_pos c]
    rfl
  · rw [if_neg c, if_neg c]
def hst (k : Nat) (F : jf_T) (Hs : jh_T) : Prop := ∃ nh od, od ≤ k ∧ nh ≤ 6 ∧ jh_sz Hs = nI nh ∧ jh_ol Hs = nI od ∧ ∀ i, i < nh → ∃ M, F ((od + i) % 6) = some M
theorem hst.up {k : Nat} {F : jf_T} {Hs : jh_T} (h : hst k F Hs) : hst (k + 1) F Hs := by
  obtain ⟨nh, od, h1, h2⟩ := h
  exact ⟨nh, od, by omega, h2⟩
theorem hst.rec {k : Nat} {F : jf_T} {Hs : jh_T} (h : hst k F Hs) (hk : k < 900) (N : jm_T) : hst (k + 1) (jf_u F (jh_ix Hs).toNatClampNeg N) (jh_rec Hs) := by
  obtain ⟨nh, od, h1, h2, h3, h4, h5⟩ := h
  by_cases c : nh = 6
  · subst c
    obtain ⟨r1, r2, r3⟩ := rec_6 h3 h4 (by omega)
    refine ⟨6, od + 1, by omega, Nat.le_refl _, r1, r2, fun i hi => ?_⟩
    rw [r3]
    by_cases q : i = 5
    · exact ⟨N, if_pos (by omega)⟩
    · obtain ⟨M, f⟩ := h5 (i + 1) (by omega)
      refine ⟨M, (if_neg (by omega)).trans ?_⟩
      rw [← f]
      exact congrArg F (by omega)
  · obtain ⟨r1, r2, r3⟩ := rec_n (show nh < 6 by omega) h3 h4 (by omega)
    refine ⟨nh + 1, od, by omega, by omega, r1, r2, fun i hi => ?_⟩
    rw [r3]
    by_cases q : i = nh
    · exact ⟨N, if_pos (by rw [q])⟩
    · obtain ⟨M, f⟩ := h5 i (by omega)
      exact ⟨M, (if_neg (by omega)).trans f⟩
theorem hst.back {k : Nat} {F : jf_T} {Hs : jh_T} (h : hst k F Hs) (hk : k < 900) (c : ¬ jh_sz Hs = 0) : (∃ M, F (jh_ib Hs).toNatClampNeg = some M) ∧ hst k F (jh_usz Hs (jh_sz Hs - 1)) := by
  obtain ⟨nh, od, h1, h2, h3, h4, h5⟩ := h
  have n0 : nh ≠ 0 := fun q => c (by rw [h3, q]; rfl)
  have ei : (jh_ib Hs).toNatClampNeg = (od + (nh - 1)) % 6 := by
    unfold jh_ib
    rw [h3, h4, show nI od + nI nh - 1 = nI (od + nh - 1) by rw [nI_add, show (1 : Int32) = nI 1 from rfl, pk_sub (by omega)], fm6 (by omega)]
    omega
  rw [ei]
  refine ⟨h5 (nh - 1) (by omega), nh - 1, od, h1, by omega, ?_, h4, fun i hi => h5 i (by omega)⟩
  show jh_sz Hs - 1 = nI (nh - 1)
  rw [h3, show (1 : Int32) = nI 1 from rfl, pk_sub (by omega)]
def okS (k : Nat) (S : oS) : Prop := Tst (99 * k) (oN S) ∧ (∀ i M, oF S i = some M → Tst (99 * k) M) ∧ (∀ i M, oG S i = some M → Tst (99 * k) M) ∧ hst k (oF S) (oH S)
def padok (P : jp_T) : Prop := jp_ln P = nI 0 ∧ jp_chs P
def rel (k : Nat) (S S' : oS) : Prop := okS k S ∧ oN S' = ng (oN S) ∧ oF S' = fng (oF S) ∧ oG S' = fng (oG S) ∧ oH S' = oH S ∧ padok (oP S')
theorem okS.up {k : Nat} {S : oS} (h : okS k S) : okS (k + 1) S := ⟨h.1.up (by omega), fun i M e => (h.2.1 i M e).up (by omega), fun i M e => (h.2.2.1 i M e).up (by omega), h.2.2.2.up⟩
theorem rel.up {k : Nat} {S S' : oS} (h : rel k S S') : rel (k + 1) S S' := ⟨h.1.up, h.2⟩
theorem rel.rec {k : Nat} {S S' : oS} (h : rel k S S') (hk : k < 900) {M : jm_T} (hM : Tst (99 * (k + 1)) M) {Q : jd_T} {P : jp_T} (hP : padok P) : rel (k + 1) (orc S M) (ng M, jf_u (oF S') (jh_ix (oH S')).toNatClampNeg (oN S'), oG S', jh_rec (oH S'), Q, P) := by
  obtain ⟨⟨a1, a2, a3, a4⟩, b1, b2, b3, b4, b5⟩ := h
  refine ⟨⟨hM, fun i M' e => ?_, fun i M e => (a3 i M e).up (by omega), a4.rec hk _⟩, rfl, ?_, b3, ?_, hP⟩
  · have e : (if i = (jh_ix (oH S)).toNatClampNeg then some (oN S) else oF S i) = some M' := e
    by_cases c : i = (jh_ix (oH S)).toNatClampNeg
    · rw [if_pos c] at e
      cases e
      exact a1.up (by omega)
    · rw [if_neg c] at e
      exact (a2 i M' e).up (by omega)
  · show jf_u (oF S') (jh_ix (oH S')).toNatClampNeg (oN S') = fng (jf_u (oF S) (jh_ix (oH S)).toNatClampNeg (oN S))
    rw [fng_u, b1, b2, b4]
  · show jh_rec (oH S') = jh_rec (oH S)
    rw [b4]
theorem rel.recS {k : Nat} {S S' : oS} (h : rel k S S') (hk : k < 900) {M M' : jm_T} (hM : Tst (99 * (k + 1)) M) (e : M' = ng M) : rel (k + 1) (orc S M) (orc S' M') := by
  subst e
  exact h.rec hk hM h.2.2.2.2.2
theorem rel.undo {k : Nat} {S S' : oS} (h : rel k S S') (hk : k < 900) (c : ¬ jh_sz (oH S) = 0) : ∃ M, oF S (jh_ib (oH S)).toNatClampNeg = some M ∧ oF S' (jh_ib (oH S')).toNatClampNeg = some (ng M) ∧ rel (k + 1) (M, oF S, oG S, jh_usz (oH S) (jh_sz (oH S) - 1), oQ S, oP S) (ng M, oF S', oG S', jh_usz (oH S') (jh_sz (oH S') - 1), oQ S', oP S') := by
  obtain ⟨⟨a1, a2, a3, a4⟩, b1, b2, b3, b4, b5⟩ := h
  obtain ⟨⟨M, e⟩, hb⟩ := a4.back hk c
  refine ⟨M, e, ?_, ⟨(a2 _ M e).up (by omega), fun i M e => (a2 i M e).up (by omega), fun i M e => (a3 i M e).up (by omega), hb.up⟩, rfl, b2, b3, ?_, b5⟩
  · rw [b2, b4]
    unfold fng
    rw [e]
    rfl
  · show jh_usz (oH S') (jh_sz (oH S') - 1) = jh_usz (oH S) (jh_sz (oH S) - 1)
    rw [b4]
def osv (S : oS) (s : Nat) : oS := (oN S, oF S, jf_u (oG S) s (oN S), oH S, oQ S, oP S)
theorem rel.save {k : Nat} {S S' : oS} (h : rel k S S') (s : Nat) : rel (k + 1) (osv S s) (osv S' s) := by
  obtain ⟨⟨a1, a2, a3, a4⟩, b1, b2, b3, b4, b5⟩ := h
  refine ⟨⟨a1.up (by omega), fun i M e => (a2 i M e).up (by omega), fun i M' e => ?_, a4.up⟩, b1, b2, ?_, b4, b5⟩
  · have e : (if i = s then some (oN S) else oG S i) = some M' := e
    by_cases c : i = s
    · rw [if_pos c] at e
      cases e
      exact a1.up (by omega)
    · rw [if_neg c] at e
      exact (a3 i M' e).up (by omega)
  · show jf_u (oG S') s (oN S') = fng (jf_u (oG S) s (oN S))
    rw [fng_u, b1, b3]
theorem rel.slot {k : Nat} {S S' : oS} (h : rel k S S') (s : Nat) : (oG S s = none ∧ oG S' s = none) ∨ ∃ M, oG S s = some M ∧ oG S' s = some (ng M) ∧ Tst (99 * (k + 1)) M := by
  obtain ⟨⟨a1, a2, a3, a4⟩, b1, b2, b3, b4, b5⟩ := h
  rw [b3]
  unfold fng
  cases e : oG S s with
  | none => exact Or.inl ⟨rfl, rfl⟩
  | some M => exact Or.inr ⟨M, rfl, rfl, (a3 s M e).up (by omega)⟩
/-! ===== how both begin ===== -/
def oS_0 : oS := (jm_0, fun _ => none, fun _ => none, jh_0, jd_0, jp_0)
theorem ng_0 : ng jm_0 = jm_0 := by
  have e1 : ngf (fun _ => (0 : Int32)) = fun _ => 0 := funext fun _ => nq_0
  have e2 : nglo (fun _ => (0 : Int32)) = fun _ => 0 := by
    funext i
    unfold nglo
    rw [nq_0, ite_self]
  show (jm_se jm_0, ngf (fun _ => (0 : Int32)), ngf (fun _ => (0 : Int32)), ngf (fun _ => (0 : Int32)), ngf (fun _ => (0 : Int32)), nglo (fun _ => (0 : Int32)), (0 : Int32), (0 : Int32), (0 : Int32), -(0 : Int32), -(0 : Int32), -(0 : Int32), -(0 : Int32)) = jm_0
  rw [e1, e2, nq_0]
  rfl
theorem Tst_0 : Tst 0 jm_0 := by
  refine ⟨0, 0, Nat.le_refl _, Nat.le_refl _, rfl, rfl, ⟨⟨by decide, by decide, by decide, by decide, by decide⟩, fun i hi => ?_, fun j hj => ?_⟩, ?_, lgi_0 _⟩
  · show -99 ≤ (0 : Int32).toInt ∧ (0 : Int32).toInt ≤ 99
    rw [Int32.toInt_zero]
    omega
  · have e4 : (jm_se jm_0 4).toInt = 1000 := by decide
    show -(jm_se jm_0 4).toInt ≤ (0 : Int32).toInt ∧ (0 : Int32).toInt ≤ (jm_se jm_0 4).toInt
    rw [Int32.toInt_zero, e4]
    omega
  · show sm (fun _ => 0) + (0 + 0) + 0 = (0 : Int32) - 0
    unfold sm
    rw [fo_zero]
    decide
theorem nar_0 : narrow .char (.int 0) = .int 0 := by decide +kernel
theorem rel_0 : rel 0 oS_0 oS_0 := ⟨⟨Tst_0, fun _ _ e => (by cases e), fun _ _ e => (by cases e), ⟨0, 0, Nat.le_refl _, by omega, rfl, rfl, fun i hi => absurd hi (by omega)⟩⟩, ng_0.symm, rfl, rfl, rfl, rfl, fun _ => nar_0⟩
