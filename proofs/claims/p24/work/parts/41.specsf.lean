/-! ===== the reader's faults ===== -/
def lc_fin (P : jp_T) (Y : jd_T) : Int32 × jd_T := ((if jd_at Y = jp_ln P then (-1000006) else jd_at Y), Y)
def lc_ff (P : jp_T) : Nat → jd_T → Int32 × jd_T
  | 0, Y => lc_fin P Y
  | n + 1, Y => if rX0_readDeed Y P = 0 then (jd_at (sX0_readDeed_0 Y P), sX0_readDeed_0 Y P) else if rX0_readSign (sX0_readDeed_0 Y P) P 59 = 0 then lc_fin P (sX0_readSign_0 (sX0_readDeed_0 Y P) P 59) else lc_ff P n (sX0_readSign_0 (sX0_readDeed_0 Y P) P 59)
theorem lc_ff_61 {P : jp_T} {k : Nat} {Y : jd_T} {Z : Int32 × jd_T} (h : k = 61) (hE : lc_ff P (61 - k) Y = Z) : lc_fin P Y = Z := by
  subst h
  rw [← hE]
  rfl
theorem lc_ff_a {P : jp_T} {k : Nat} {Y : jd_T} {Z : Int32 × jd_T} (h : k < 61) (c : rX0_readDeed Y P = 0) (hE : lc_ff P (61 - k) Y = Z) : (jd_at (sX0_readDeed_0 Y P), sX0_readDeed_0 Y P) = Z := by
  rw [← hE, show 61 - k = (61 - (k + 1)) + 1 by omega, lc_ff, if_pos c]
theorem lc_ff_b {P : jp_T} {k : Nat} {Y : jd_T} {Z : Int32 × jd_T} (h : k < 61) (c : ¬ rX0_readDeed Y P = 0) (c2 : rX0_readSign (sX0_readDeed_0 Y P) P 59 = 0) (hE : lc_ff P (61 - k) Y = Z) : lc_fin P (sX0_readSign_0 (sX0_readDeed_0 Y P) P 59) = Z := by
  rw [← hE, show 61 - k = (61 - (k + 1)) + 1 by omega, lc_ff, if_neg c, if_pos c2]
theorem lc_ff_s {P : jp_T} {k : Nat} {Y : jd_T} {Z : Int32 × jd_T} (h : k < 61) (c : ¬ rX0_readDeed Y P = 0) (c2 : ¬ rX0_readSign (sX0_readDeed_0 Y P) P 59 = 0) (hE : lc_ff P (61 - k) Y = Z) : lc_ff P (61 - (k + 1)) (sX0_readSign_0 (sX0_readDeed_0 Y P) P 59) = Z := by
  rw [← hE, show 61 - k = (61 - (k + 1)) + 1 by omega, lc_ff, if_neg c, if_neg c2]
theorem lc_p1 {α β : Type} {a : α} {b : β} {Z : α × β} (h : (a, b) = Z) : a = Z.1 := by rw [← h]
theorem lc_p2 {α β : Type} {a : α} {b : β} {Z : α × β} (h : (a, b) = Z) : b = Z.2 := by rw [← h]
theorem lc_fin2 {P : jp_T} {Y : jd_T} {Z : Int32 × jd_T} (h : lc_fin P Y = Z) : Y = Z.2 := by
  rw [← h]
  rfl
theorem lc_fin1a {P : jp_T} {Y : jd_T} {Z : Int32 × jd_T} (c : jd_at Y = jp_ln P) (h : lc_fin P Y = Z) : -1000006 = Z.1 := by
  rw [← h]
  exact (if_pos c).symm
theorem lc_fin1b {P : jp_T} {Y : jd_T} {Z : Int32 × jd_T} (c : ¬ jd_at Y = jp_ln P) (h : lc_fin P Y = Z) : jd_at Y = Z.1 := by
  rw [← h]
  exact (if_neg c).symm
