-- ===== 23.kspec2: the reference's public calls; n entries, k the primary where there is one
def k_stage (z : x_S) (n : Nat) (a v : Int32) : Int32 × x_S := if k_out a 24 = 0 then (if z 0 6 = 2 then (-1, z) else if n = 3 then (-2, z) else (x_up (x_up (x_up z 3 n a) 4 n v) 2 0 (nI n + 1) 2 0, x_up (x_up (x_up z 3 n a) 4 n v) 2 0 (nI n + 1))) else (-1, z)
def k_cell (z : x_S) (k : Nat) (a : Int32) : Int64 := if k_out a 24 = 0 then (if z 0 6 = 2 then -1000000000000 else (k_held z k a.toNatClampNeg).toInt64) else -1000000000000
def k_cr2 (z : x_S) (k : Nat) (i : Nat) : x_S := if (x_up z (5 + k) 5 (z (5 + k) 5 ||| k_ext i)) 0 1 = 0 then x_up z (5 + k) 5 (z (5 + k) 5 ||| k_ext i) else x_up (x_up z (5 + k) 5 (z (5 + k) 5 ||| k_ext i)) (5 + (1 - k)) 5 ((x_up z (5 + k) 5 (z (5 + k) 5 ||| k_ext i)) (5 + (1 - k)) 5 ||| k_ext i)
def k_crB (z : x_S) (k : Nat) (keep : Int32) (i : Nat) : x_S := if z (11 + k) i = 0 then z else x_up (if x_sh keep (nI i) &&& 1 = 1 then x_up (k_cr2 z k i) (7 + k) i (k_cr2 z k i (9 + k) i) else k_cr2 z k i) (11 + k) i 0
def k_crL (k : Nat) (keep : Int32) : Nat → Nat → x_S → x_S
  | 0, _, z => z
  | n + 1, i, z => k_crL k keep n (i + 1) (k_crB z k keep i)
def k_crT (z : x_S) (k : Nat) : x_S := if x_up z (5 + k) 0 1 0 6 = nI k then k_disc (k_noP (x_up z (5 + k) 0 1)) else k_disc (x_up z (5 + k) 0 1)
def k_crash (z : x_S) (a keep : Int32) : Int32 × x_S := if k_out a 2 = 0 then (if z (5 + a.toNatClampNeg) 0 = 0 then (0, k_crT (k_crL a.toNatClampNeg keep 32 0 z) a.toNatClampNeg) else (-1, z)) else (-1, z)
def k_restart (z : x_S) (a : Int32) : Int32 × x_S := if k_out a 2 = 0 then (if z (5 + a.toNatClampNeg) 0 = 0 then (-1, z) else (0, x_up z (5 + a.toNatClampNeg) 0 0)) else (-1, z)
def k_swL (k : Nat) : Nat → Nat → x_S → x_S
  | 0, _, z => z
  | n + 1, i, z => k_swL k n (i + 1) (x_up (x_up z (7 + k) i 0) (11 + k) i 0)
def k_swT (z : x_S) (k : Nat) : x_S := x_up (x_up (x_up (x_up z (5 + k) 2 0) (5 + k) 3 0) (5 + k) 4 0) (5 + k) 5 0
def k_swap (z : x_S) (a : Int32) : Int32 × x_S := if k_out a 2 = 0 then (if z (5 + a.toNatClampNeg) 0 = 0 then (-1, z) else (0, k_swT (k_swL a.toNatClampNeg 32 0 z) a.toNatClampNeg)) else (-1, z)
def k_line (z : x_S) (u : Int32) : Int32 × x_S := if u = 0 then (0, k_disc (x_up z 0 0 u)) else (0, x_up z 0 0 u)
def k_wline (z : x_S) (a u : Int32) : Int32 × x_S := if k_out a 2 = 0 then (if u = 0 then (0, x_up z (5 + a.toNatClampNeg) 6 1) else (0, x_up z (5 + a.toNatClampNeg) 6 0)) else (-1, z)
def k_fin (z : x_S) (s : Nat) : x_S :=
  let z1 := k_settle (k_settle z 0) 1
  let z2 := x_up z1 (5 + (1 - s)) 2 (z1 (5 + s) 2)
  x_up (x_up (x_up (x_up (x_up z2 5 4 0) 5 5 0) 6 4 0) 6 5 0) 0 7 2
def k_cntL (u : Int32) : Nat → Nat → Int32 → Int32
  | 0, _, a => a
  | n + 1, i, a => k_cntL u n (i + 1) (a + ((u >>> (nI i &&& 31)) &&& 1))
def k_conT (z : x_S) (s : Nat) (u : Int32) : Int32 × x_S := if u = 0 then (0, k_fin (x_up z 0 1 1) s) else (k_cntL u 8 0 0, x_up (x_up (x_up (x_up (x_up (x_up z 0 1 1) (5 + s) 5 u) (5 + (1 - s)) 5 0) (5 + (1 - s)) 2 0) (5 + (1 - s)) 4 0) 0 7 (nI s))
def k_con40 (z : x_S) : Int32 × x_S := if z 5 4 = 0 then k_conT z 0 255 else if z 5 3 = z 6 2 then k_conT z 0 (z 5 5 ||| z 6 5) else k_conT z 0 255
def k_con41 (z : x_S) : Int32 × x_S := if z 6 4 = 0 then k_conT z 1 255 else if z 6 3 = z 5 2 then k_conT z 1 (z 5 5 ||| z 6 5) else k_conT z 1 255
def k_con3 (z : x_S) : Int32 × x_S := if z 6 2 ≤ z 5 2 then (if z 5 2 = z 6 2 then (if z 0 6 = 1 then k_conT z 1 (z 5 5 ||| z 6 5) else k_conT z 0 (z 5 5 ||| z 6 5)) else k_con40 z) else (if z 5 2 = z 6 2 then (if z 0 6 = 1 then k_conT z 1 (z 5 5 ||| z 6 5) else k_conT z 0 (z 5 5 ||| z 6 5)) else k_con41 z)
def k_connect (z : x_S) : Int32 × x_S := if z 0 1 = 0 then (if z 0 0 = 0 then (-1, z) else if z 5 0 = 0 then (if z 6 0 = 0 then (if z 5 2 = 0 then (if z 6 2 = 0 then (-6, z) else k_con3 z) else k_con3 z) else (-1, z)) else (-1, z)) else (-1, z)
def k_demote (z : x_S) (a : Int32) : Int32 × x_S := if k_out a 2 = 0 then (if z 0 6 = a then (if k_noP z 1 3 = a then (0, x_up (k_noP z) 1 3 2) else (0, k_noP z)) else (-1, z)) else (-1, z)
def k_rnw (z : x_S) (k : Nat) : Int32 × x_S := if z 0 6 = 2 then (-1, z) else if z (5 + k) 6 = 0 then (x_up z 1 4 (z 1 2 + z 1 0) 1 4, x_up z 1 4 (z 1 2 + z 1 0)) else (-1, z)
def k_tickT (z : x_S) : Int32 × x_S := if x_up z 1 3 2 0 6 = 2 then (x_up z 1 3 2 1 2, x_up z 1 3 2) else (k_noP (x_up z 1 3 2) 1 2, k_noP (x_up z 1 3 2))
def k_tick (z : x_S) (b : Int32) : Int32 × x_S := if b < 0 then (-1, z) else if b ≤ 100 then (if x_up z 1 2 (z 1 2 + b) 1 3 = 2 then k_tickT (x_up z 1 2 (z 1 2 + b)) else if x_up z 1 2 (z 1 2 + b) 1 2 < x_up z 1 2 (z 1 2 + b) 1 4 then (x_up z 1 2 (z 1 2 + b) 1 2, x_up z 1 2 (z 1 2 + b)) else k_tickT (x_up z 1 2 (z 1 2 + b))) else (-1, z)
def k_block (z : x_S) (a b f : Int32) : Int64 := if k_out a 2 = 0 then (if k_out b 32 = 0 then (if f = 0 then (k_held z a.toNatClampNeg b.toNatClampNeg).toInt64 else (z (7 + a.toNatClampNeg) b.toNatClampNeg).toInt64) else -1000000000000) else -1000000000000
def k_hasL (z : x_S) (k : Nat) : Nat → Nat → Int32 → Int32
  | 0, _, a => a
  | n + 1, i, a => k_hasL z k n (i + 1) (if z (11 + k) i = 0 then a + 0 else a + 1)
def k_nodeT (z : x_S) (k : Nat) (w : Int32) : Int32 :=
  if w = 0 then (if z (5 + k) 0 = 0 then 1 else 0) else if w = 1 then (if z 0 6 = nI k then 1 else 0) else if w = 2 then z (5 + k) 2 else if w = 3 then z (5 + k) 3 else if w = 4 then (if z (5 + k) 4 = 0 then 0 else 1) else if w = 5 then z (5 + k) 5 else if w = 6 then k_hasL z k 32 0 0 else if w = 7 then (if z (5 + k) 6 = 0 then 1 else 0) else -1
def k_node (z : x_S) (a w : Int32) : Int32 := if k_out a 2 = 0 then k_nodeT z a.toNatClampNeg w else -1
def k_mirror (z : x_S) (w : Int32) : Int32 := if w = 0 then (if z 0 1 = 0 then 0 else 1) else if w = 1 then z 0 7 else if w = 2 then z 1 1 else if w = 3 then z 1 3 else if w = 4 then (if z 1 3 = 2 then 0 else z 1 4) else if w = 5 then z 2 0 else if w = 6 then (if z 0 0 = 0 then 0 else 1) else -1
theorem k_outE {v : Int32} (n : Nat) (hn : n < 2 ^ 31) (h : k_out v (nI n) = 0) : ∃ b : Nat, b < n ∧ v = nI b := by
  unfold k_out at h
  by_cases h0 : v < 0
  · simp [h0] at h
  · by_cases h1 : v < nI n
    · rcases pk_ix v (n := n) hn with q | q | q
      · exact absurd q h0
      · exact absurd h1 (Int32.not_lt.mpr q)
      · exact q
    · simp [h0, h1] at h
theorem k_out2 {v : Int32} (h : k_out v 2 = 0) : ∃ b : Nat, b < 2 ∧ v = nI b := k_outE 2 (by decide) h
theorem k_out24 {v : Int32} (h : k_out v 24 = 0) : ∃ b : Nat, b < 24 ∧ v = nI b := k_outE 24 (by decide) h
theorem k_out32 {v : Int32} (h : k_out v 32 = 0) : ∃ b : Nat, b < 32 ∧ v = nI b := k_outE 32 (by decide) h
theorem k_crB_06 {z : x_S} {k i : Nat} {keep : Int32} : k_crB z k keep i 0 6 = z 0 6 := by
  unfold k_crB
  split
  · rfl
  · rw [x_up_row (by omega)]
    have e : k_cr2 z k i 0 6 = z 0 6 := by
      unfold k_cr2
      split
      · rw [x_up_row (by omega)]
      · rw [x_up_row (by omega), x_up_row (by omega)]
    split
    · rw [x_up_row (by omega)]; exact e
    · exact e
