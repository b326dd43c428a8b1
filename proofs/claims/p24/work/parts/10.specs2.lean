/-! ===== loops of turns ===== -/
def lp_turn (M : jm_T) : Nat → jm_T
  | 0 => M
  | k + 1 => sX2_turnOnce (lp_turn M k)
def lp_dif (M : jm_T) : Nat → Int32
  | 0 => 0
  | k + 1 => if lp_dif M k < rX2_difference (sX2_turnOnce (lp_turn M k)) then rX2_difference (sX2_turnOnce (lp_turn M k)) else lp_dif M k
def lp_ahead (M : jm_T) : Nat → jm_T
  | 0 => M
  | k + 1 => sX2_turnAheadOfSpark (lp_ahead M k)
/-- turns until a spark is due, at most n: in which turn (counted from i), and the machine then -/
def lp_spark : Nat → jm_T → Int32 → Int32 × jm_T
  | 0, M, _ => (-1000006, M)
  | n + 1, M, i => if rX2_isSparkDue (sX2_turnAheadOfSpark M) = 0 then lp_spark n (sX2_turnAheadOfSpark M) (i + 1) else (i, sX2_turnAheadOfSpark M)
theorem lp_spark_step {N k : Nat} {M : jm_T} {X : Int32 × jm_T} (h : k < N) (c : rX2_isSparkDue (sX2_turnAheadOfSpark (lp_ahead M k)) = 0) (hE : lp_spark (N - k) (lp_ahead M k) (nI (k + 1)) = X) : lp_spark (N - (k + 1)) (lp_ahead M (k + 1)) (nI (k + 1 + 1)) = X := by
  rw [← hE, show N - k = (N - (k + 1)) + 1 by omega]
  show _ = (if rX2_isSparkDue (sX2_turnAheadOfSpark (lp_ahead M k)) = 0 then _ else _)
  rw [if_pos c, nI_1]
  rfl
theorem lp_spark_due {N k : Nat} {M : jm_T} {X : Int32 × jm_T} (h : k < N) (c : ¬ rX2_isSparkDue (sX2_turnAheadOfSpark (lp_ahead M k)) = 0) (hE : lp_spark (N - k) (lp_ahead M k) (nI (k + 1)) = X) : (nI (k + 1), lp_ahead M (k + 1)) = X := by
  rw [← hE, show N - k = (N - (k + 1)) + 1 by omega]
  show _ = (if rX2_isSparkDue (sX2_turnAheadOfSpark (lp_ahead M k)) = 0 then _ else _)
  rw [if_neg c]
  rfl
