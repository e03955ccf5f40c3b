-- ===== 14.xrows: rows that the steps leave alone; commit and resync
theorem x_put_row {z : x_S} {k b a : Nat} {v : Int32} (h9 : a ≠ 9 + k) (h5 : a ≠ 5 + k) : x_put z k b v a = z a := by
  unfold x_put
  rw [x_up_row h5, x_up_row h9]
theorem x_setB_row {z : x_S} {k i a : Nat} {keep : Int32} (h : a ≠ 7 + k) : x_setB z k keep i a = z a := by
  unfold x_setB
  split
  · rfl
  · split
    · exact x_up_row h
    · rfl
theorem x_setL_row {k a : Nat} {keep : Int32} (h : a ≠ 7 + k) : ∀ (n i : Nat) (z : x_S), x_setL k keep n i z a = z a
  | 0, _, _ => rfl
  | n + 1, i, z => by rw [x_setL, x_setL_row h n, x_setB_row h]
theorem x_settle_row {z : x_S} {k a : Nat} {keep : Int32} (h7 : a ≠ 7 + k) (h5 : a ≠ 5 + k) : x_settle z k keep a = z a := by
  unfold x_settle
  rw [x_up_row h5, x_setL_row h7]
theorem x_flush_row {z : x_S} {k a : Nat} (h7 : a ≠ 7 + k) (h5 : a ≠ 5 + k) : x_flush z k a = z a := x_settle_row h7 h5
theorem x_wr_low {z : x_S} {k b a : Nat} {v : Int32} (h : a ≤ 4) : x_wr z k b v a = z a := by
  unfold x_wr
  try dsimp only
  split
  · rw [x_up_row (by omega), x_put_row (by omega) (by omega)]
  · rw [x_put_row (by omega) (by omega), x_put_row (by omega) (by omega)]
theorem x_fl_low {z : x_S} {k a : Nat} (h : a ≤ 4) : x_fl z k a = z a := by
  unfold x_fl
  try dsimp only
  split
  · rw [x_flush_row (by omega) (by omega)]
  · rw [x_flush_row (by omega) (by omega), x_flush_row (by omega) (by omega)]
theorem x_step_low {z : x_S} {k n t a : Nat} (h : a ≤ 4) : x_step z k n t a = z a := by
  unfold x_step
  repeat' split
  all_goals first | rfl | exact x_fl_low h | exact x_wr_low h
theorem x_goAl_low {z : x_S} {k a : Nat} (h : a ≤ 4) (h1 : a ≠ 1) : x_goAl z k a = z a := by
  unfold x_goAl
  try dsimp only
  rw [x_up_row (by omega), x_up_row (by omega), x_up_row (by omega), x_up_row h1]
def x_comL (k n : Nat) : Nat → Nat → x_S → x_S
  | 0, _, z => z
  | m + 1, t, z => x_comL k n m (t + 1) (x_step z k n t)
theorem x_comL_low {k n a : Nat} (h : a ≤ 4) : ∀ (m t : Nat) (z : x_S), x_comL k n m t z a = z a
  | 0, _, _ => rfl
  | m + 1, t, z => by rw [x_comL, x_comL_low h m, x_step_low h]
def x_comB (z : x_S) (k n : Nat) (cut keep : Int32) : Int32 × x_S := if cut < 0 then (0, x_up (x_comL k n (3 * n + 7) 0 z) 2 0 0) else if nI (3 * n + 7) ≤ cut then (0, x_up (x_comL k n (3 * n + 7) 0 z) 2 0 0) else (-7, x_bring (x_comL k n cut.toNatClampNeg 0 z) k keep)
def x_commit (z : x_S) (n : Nat) (cut keep : Int32) : Int32 × x_S := if x_findP z = 2 then (-1, z) else if n = 0 then (-1, z) else
  let k := (x_findP z).toNatClampNeg
  if x_unp z k = 0 then x_comB z k n cut keep else if z (5 + k) 6 = 0 then (-3, z) else x_comB (x_goAl z k) k n cut keep
def x_rsB (z : x_S) (s : Nat) : x_S := x_cp (x_up z (5 + s) 5 (z (5 + s) 5 &&& ((1 <<< (x_ntz (z (5 + s) 5) &&& 31)) ^^^ (-1)))) s (x_ntz (z (5 + s) 5)).toNatClampNeg
def x_rsL (s : Nat) : Nat → x_S → x_S
  | 0, z => z
  | n + 1, z => if z (5 + s) 5 = 0 then z else x_rsL s n (x_rsB z s)
def x_rsT (z : x_S) (s : Nat) : Int32 × x_S := if x_bc (z (5 + s) 5) = 0 then (x_bc (z (5 + s) 5), x_fin z s) else (x_bc (z (5 + s) 5), z)
def x_resync (z : x_S) (a : Int32) : Int32 × x_S := if a < 1 then (-1, z) else if 4 < a then (-1, z) else if z 0 2 = 0 then (-1, z) else x_rsT (x_rsL (z 0 3).toNatClampNeg a.toNatClampNeg z) (z 0 3).toNatClampNeg
def x_low (m : Nat) : Nat := if m % 2 = 1 then 0 else if m / 2 % 2 = 1 then 1 else if m / 4 % 2 = 1 then 2 else if m / 8 % 2 = 1 then 3 else if m / 16 % 2 = 1 then 4 else if m / 32 % 2 = 1 then 5 else if m / 64 % 2 = 1 then 6 else 7
theorem x_low_lt (m : Nat) : x_low m < 8 := by unfold x_low; repeat' split
                                               all_goals omega
theorem x_ntz_low : ∀ m, m < 256 → 0 < m → x_ntz (nI m) = nI (x_low m) := by decide +kernel
theorem x_clr : ∀ m, m < 256 → 0 < m → nI m &&& ((1 <<< (nI (x_low m) &&& 31)) ^^^ (-1)) = nI (m - 2 ^ x_low m) := by decide +kernel
theorem x_cpL_row {s a : Nat} (h9 : a ≠ 9 + (1 - s)) (h5 : a ≠ 5 + (1 - s)) : ∀ (n i : Nat) (z : x_S), x_cpL s n i z a = z a
  | 0, _, _ => rfl
  | n + 1, i, z => by rw [x_cpL, x_cpL_row h9 h5 n, x_put_row h9 h5]
theorem x_cp_row {z : x_S} {s e a : Nat} (h9 : a ≠ 9 + (1 - s)) (h5 : a ≠ 5 + (1 - s)) : x_cp z s e a = z a := x_cpL_row h9 h5 _ _ _
theorem x_rsB_0 {z : x_S} {s : Nat} (hs : s < 2) : x_rsB z s 0 = z 0 := by
  unfold x_rsB
  rw [x_cp_row (by omega) (by omega), x_up_row (by omega)]
theorem x_rsB_m {z : x_S} {s m : Nat} (hs : s < 2) (hm : m < 256) (h0 : 0 < m) (h : z (5 + s) 5 = nI m) : x_rsB z s (5 + s) 5 = nI (m - 2 ^ x_low m) := by
  unfold x_rsB
  rw [x_cp_row (by omega) (by omega), x_up_eq, h, x_ntz_low m hm h0, x_clr m hm h0]
