-- ===== 12.xspec3: the public calls of the class; n is the batch's size
def x_stage (z : x_S) (n : Nat) (a v : Int32) : Int32 × x_S := if x_isCell a = 0 then (-1, z) else if x_findP z = 2 then (-1, z) else if n = 3 then (-2, z) else (x_app z n a v 2 0, x_app z n a v)
def x_cell (z : x_S) (a : Int32) : Int64 := if x_isCell a = 0 then -1000000000000 else if x_findP z = 2 then -1000000000000 else (x_held z (x_findP z).toNatClampNeg a.toNatClampNeg).toInt64
def x_crash (z : x_S) (a keep : Int32) : Int32 × x_S := if x_isNode a = 0 then (-1, z) else if z (5 + a.toNatClampNeg) 0 = 0 then (-1, z) else (0, x_bring z a.toNatClampNeg keep)
def x_restart (z : x_S) (a : Int32) : Int32 × x_S := if x_isNode a = 0 then (-1, z) else if z (5 + a.toNatClampNeg) 0 = 0 then (0, x_up z (5 + a.toNatClampNeg) 0 1) else (-1, z)
def x_swap (z : x_S) (a : Int32) : Int32 × x_S := if x_isNode a = 0 then (-1, z) else if z (5 + a.toNatClampNeg) 0 = 0 then (0, x_renew z a.toNatClampNeg) else (-1, z)
def x_line (z : x_S) (u : Int32) : Int32 × x_S := if u = 0 then (0, x_disc (x_up z 0 0 u)) else (0, x_up z 0 0 u)
def x_wline (z : x_S) (a u : Int32) : Int32 × x_S := if x_isNode a = 0 then (-1, z) else (0, x_up z (5 + a.toNatClampNeg) 6 u)
def x_conn3 (z : x_S) : Int32 × x_S :=
  let z1 := x_up z 0 3 (x_choose z)
  let s := (x_choose z).toNatClampNeg
  let z2 := x_up z1 0 1 1
  if x_diff z1 s = 0 then (x_bc (x_diff z1 s), x_fin z2 s) else (x_bc (x_diff z1 s), x_start z2 s (x_diff z1 s))
def x_connect (z : x_S) : Int32 × x_S := if z 0 1 = 0 then (if z 0 0 = 0 then (-1, z) else if z 5 0 = 0 then (-1, z) else if z 6 0 = 0 then (-1, z) else if z 5 2 = 0 then (if z 6 2 = 0 then (-6, z) else x_conn3 z) else x_conn3 z) else (-1, z)
def x_prom2 (z : x_S) (k : Nat) (al : Bool) : Int32 × x_S :=
  let z1 := x_lend (x_up (x_sec z (1 - k)) (5 + k) 1 1) (nI k)
  if al then x_redo (x_fl (x_goAl z1 k) k) k else if x_unp z1 k = 0 then x_redo (x_fl z1 k) k else x_redo (x_fl (x_goAl z1 k) k) k
def x_promote (z : x_S) (a f : Int32) : Int32 × x_S := if x_isNode a = 0 then (-1, z) else
  let k := a.toNatClampNeg
  if x_may z k = 0 then (-1, z) else if x_lent z (nI (1 - k)) = 0 then (if z (5 + k) 2 = 0 then (-6, z) else if z (5 + k) 2 = z 1 1 then x_prom2 z k false else if f = 0 then (-5, z) else x_prom2 z k true) else (-4, z)
def x_demote (z : x_S) (a : Int32) : Int32 × x_S := if x_isNode a = 0 then (-1, z) else if z (5 + a.toNatClampNeg) 1 = 0 then (-1, z) else if x_sec z a.toNatClampNeg 1 3 = a then (0, x_up (x_sec z a.toNatClampNeg) 1 3 2) else (0, x_sec z a.toNatClampNeg)
def x_rnw (z : x_S) : Int32 × x_S := if x_findP z = 2 then (-1, z) else if z (5 + (x_findP z).toNatClampNeg) 6 = 0 then (-1, z) else (x_ext z 1 4, x_ext z)
def x_tick (z : x_S) (b : Int32) : Int32 × x_S := if b < 0 then (-1, z) else if b ≤ 100 then
    (let z1 := x_up z 1 2 (z 1 2 + b)
     if x_run z1 = 0 then (let z2 := x_sec (x_sec (x_up z1 1 3 2) 0) 1; (z2 1 2, z2)) else (z1 1 2, z1)) else (-1, z)
def x_block (z : x_S) (a b f : Int32) : Int64 := if x_isNode a = 0 then -1000000000000 else if b < 0 then -1000000000000 else if b < 32 then (if f = 0 then (x_held z a.toNatClampNeg b.toNatClampNeg).toInt64 else (z (7 + a.toNatClampNeg) b.toNatClampNeg).toInt64) else -1000000000000
def x_node (z : x_S) (a w : Int32) : Int32 := if x_isNode a = 0 then -1 else
  let k := a.toNatClampNeg
  if w = 0 then x_num (z (5 + k) 0) else if w = 1 then x_num (z (5 + k) 1) else if w = 2 then z (5 + k) 2 else if w = 3 then z (5 + k) 3 else if w = 4 then x_num (z (5 + k) 4) else if w = 5 then z (5 + k) 5 else if w = 6 then x_bc (z (5 + k) 7) else if w = 7 then x_num (z (5 + k) 6) else -1
def x_mirror (z : x_S) (w : Int32) : Int32 := if w = 0 then x_num (z 0 1) else if w = 1 then (if z 0 2 = 0 then 2 else z 0 3) else if w = 2 then z 1 1 else if w = 3 then z 1 3 else if w = 4 then (if z 1 3 = 2 then 0 else z 1 4) else if w = 5 then z 2 0 else if w = 6 then x_num (z 0 0) else -1
theorem x_sw (n : Nat) (w : Int32) : (w.toInt < 0 ∨ ((n : Int) - 1) < w.toInt) ∨ ∃ j, j < n ∧ w = nI j := by
  rcases Int.lt_or_le w.toInt 0 with h | h
  · exact Or.inl (Or.inl h)
  · rcases Int.lt_or_le ((n : Int) - 1) w.toInt with h2 | h2
    · exact Or.inl (Or.inr h2)
    · have h0 : ¬ w < 0 := fun q => by
        rw [Int32.lt_iff_toInt_lt, Int32.toInt_zero] at q
        omega
      obtain ⟨j, hj, rfl⟩ := nI_of h0
      rw [nI_toInt hj] at h2
      exact Or.inr ⟨j, by omega, rfl⟩
theorem x_findE {z : x_S} {r : Int32} (e : r = x_findP z) (h : ¬ r = 2) : ∃ k : Nat, k < 2 ∧ r = nI k := by
  subst e
  unfold x_findP at h ⊢
  by_cases h0 : z 5 1 = 0
  · by_cases h1 : z 6 1 = 0
    · simp [h0, h1] at h
    · exact ⟨1, by decide, by rw [if_pos h0, if_neg h1]; rfl⟩
  · exact ⟨0, by decide, by rw [if_neg h0]; rfl⟩
theorem x_chooseE (z : x_S) : ∃ k : Nat, k < 2 ∧ x_choose z = nI k := by
  unfold x_choose
  by_cases h0 : z 5 2 = z 6 2
  · by_cases h1 : z 6 1 = 0
    · exact ⟨0, by decide, by rw [if_pos h0, if_pos h1]; rfl⟩
    · exact ⟨1, by decide, by rw [if_pos h0, if_neg h1]; rfl⟩
  · by_cases h1 : z 5 2 ≤ z 6 2
    · exact ⟨1, by decide, by rw [if_neg h0, if_pos h1]; rfl⟩
    · exact ⟨0, by decide, by rw [if_neg h0, if_neg h1]; rfl⟩
theorem x_b32E {b : Int32} (h0 : ¬ b < 0) (h1 : b < 32) : ∃ j : Nat, j < 32 ∧ b = nI j := by
  rcases pk_ix b (n := 32) (by decide) with q | q | q
  · exact absurd q h0
  · exact absurd (show (32 : Int32) ≤ b from q) (Int32.not_le.mpr h1)
  · exact q
