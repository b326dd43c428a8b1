/-! ===== run()'s loop ===== -/
def lc_rl (P : jp_T) : Nat → jm_T → jd_T → jm_T × jd_T
  | 0, N, Q => (N, Q)
  | n + 1, N, Q => if rX0_readDeed Q P = 0 then (N, sX0_readDeed_0 Q P) else lc_rl P n (sX4_doReadDeed_1 N (sX0_readDeed_0 Q P)) (sX0_readSign_0 (sX0_readDeed_0 Q P) P 59)
theorem lc_rl_60 {P : jp_T} {k : Nat} {N : jm_T} {Q : jd_T} {X : jm_T × jd_T} (h : k = 60) (hE : lc_rl P (60 - k) N Q = X) : (N, Q) = X := by
  subst h
  rw [← hE]
  rfl
theorem lc_rl_a {P : jp_T} {k : Nat} {N : jm_T} {Q : jd_T} {X : jm_T × jd_T} (h : k < 60) (c : rX0_readDeed Q P = 0) (hE : lc_rl P (60 - k) N Q = X) : (N, sX0_readDeed_0 Q P) = X := by
  rw [← hE, show 60 - k = (60 - (k + 1)) + 1 by omega, lc_rl, if_pos c]
theorem lc_rl_s {P : jp_T} {k : Nat} {N : jm_T} {Q : jd_T} {X : jm_T × jd_T} (h : k < 60) (c : ¬ rX0_readDeed Q P = 0) (hE : lc_rl P (60 - k) N Q = X) : lc_rl P (60 - (k + 1)) (sX4_doReadDeed_1 N (sX0_readDeed_0 Q P)) (sX0_readSign_0 (sX0_readDeed_0 Q P) P 59) = X := by
  rw [← hE, show 60 - k = (60 - (k + 1)) + 1 by omega, lc_rl, if_neg c]
theorem if_t1 {α : Type} {c : Prop} [Decidable c] {a b x : α} (h : c) (e : x = a) : x = if c then a else b := by
  rw [if_pos h]
  exact e
theorem if_f1 {α : Type} {c : Prop} [Decidable c] {a b x : α} (h : ¬ c) (e : x = b) : x = if c then a else b := by
  rw [if_neg h]
  exact e
theorem lc_sub1 {N : jm_T} {Q : jd_T} {Z : jm_T × jd_T} {b : Int32} (h : (N, Q) = Z) : jm_sp N - b = jm_sp Z.1 - b := by rw [← h]
