-- ===== 21.kspec: what each method of the reference does to its state z
def k_out (v n : Int32) : Int32 := if v < 0 then 1 else if v < n then 0 else 1
def k_held (z : x_S) (k b : Nat) : Int32 := if z (11 + k) b = 0 then z (7 + k) b else z (9 + k) b
def k_ext (b : Nat) : Int32 := 1 <<< ((nI b / 4) &&& 31)
def k_disc (z : x_S) : x_S := x_up (x_up z 0 1 0) 0 7 2
def k_noP (z : x_S) : x_S := x_up (x_up z 0 6 2) 2 0 0
def k_keep (z : x_S) (k b : Nat) (v : Int32) : x_S := x_up (x_up z (9 + k) b v) (11 + k) b 1
def k_wr (z : x_S) (k b : Nat) (v : Int32) : x_S := if k_keep z k b v 0 1 = 0 then x_up (k_keep z k b v) (5 + k) 5 (k_keep z k b v (5 + k) 5 ||| k_ext b) else k_keep (k_keep z k b v) (1 - k) b v
def k_setB (z : x_S) (k i : Nat) : x_S := x_up (x_up z (7 + k) i (k_held z k i)) (11 + k) i 0
def k_setL (k : Nat) : Nat → Nat → x_S → x_S
  | 0, _, z => z
  | n + 1, i, z => k_setL k n (i + 1) (k_setB z k i)
def k_settle (z : x_S) (k : Nat) : x_S := k_setL k 32 0 z
def k_fl (z : x_S) (k : Nat) : x_S := if z 0 1 = 0 then k_settle z k else k_settle (k_settle z (1 - k)) k
def k_step (z : x_S) (k n t : Nat) : x_S :=
  if t = 0 then k_fl z k else if t = 2 then k_fl z k else if t = 3 + 2 * n then k_fl z k else if t = 3 + 2 * n + 2 then k_fl z k
  else if t = 1 then k_wr z k 24 0 else if t = 3 + 2 * n + 1 then k_wr z k 24 (nI n)
  else if 3 + 2 * n ≤ t then (if 3 + 2 * n + 3 + n ≤ t then z else k_wr z k (z 3 (t - (3 + 2 * n) - 3)).toNatClampNeg (z 4 (t - (3 + 2 * n) - 3)))
  else if (t - 3) % 2 = 0 then k_wr z k (25 + 2 * ((t - 3) / 2)) (z 3 ((t - 3) / 2)) else k_wr z k (26 + 2 * ((t - 3) / 2)) (z 4 ((t - 3) / 2))
theorem k_keep_low {z : x_S} {k b a : Nat} {v : Int32} (h : a ≤ 8) : k_keep z k b v a = z a := by
  unfold k_keep
  rw [x_up_row (by omega), x_up_row (by omega)]
theorem k_setB_low {z : x_S} {k i a : Nat} (h : a ≤ 6) : k_setB z k i a = z a := by
  unfold k_setB
  rw [x_up_row (by omega), x_up_row (by omega)]
theorem k_setL_low {k a : Nat} (h : a ≤ 6) : ∀ (n i : Nat) (z : x_S), k_setL k n i z a = z a
  | 0, _, _ => rfl
  | n + 1, i, z => by rw [k_setL, k_setL_low h n, k_setB_low h]
theorem k_settle_low {z : x_S} {k a : Nat} (h : a ≤ 6) : k_settle z k a = z a := k_setL_low h _ _ _
theorem k_fl_low {z : x_S} {k a : Nat} (h : a ≤ 6) : k_fl z k a = z a := by
  unfold k_fl
  split
  · exact k_settle_low h
  · rw [k_settle_low h, k_settle_low h]
theorem k_wr_low {z : x_S} {k b a : Nat} {v : Int32} (h : a ≤ 4) : k_wr z k b v a = z a := by
  unfold k_wr
  split
  · rw [x_up_row (by omega), k_keep_low (by omega)]
  · rw [k_keep_low (by omega), k_keep_low (by omega)]
theorem k_step_low {z : x_S} {k n t a : Nat} (h : a ≤ 4) : k_step z k n t a = z a := by
  unfold k_step
  repeat' split
  all_goals first | rfl | exact k_fl_low (by omega) | exact k_wr_low h
theorem k_and1 {n : Nat} (h : n < 2 ^ 31) : nI n &&& 1 = nI (n % 2) := pk_andN (by omega) 1 (by decide)
