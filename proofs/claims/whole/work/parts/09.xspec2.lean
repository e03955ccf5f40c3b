-- ===== 09.xspec2: further methods of the class
def x_step (z : x_S) (k n t : Nat) : x_S :=
  if t = 0 then x_fl z k else if t = 2 then x_fl z k else if t = 3 + 2 * n then x_fl z k else if t = 3 + 2 * n + 2 then x_fl z k
  else if t = 1 then x_wr z k 24 0
  else if 3 + 2 * n ≤ t then (if t = 3 + 2 * n + 1 then x_wr z k 24 (nI n) else if 3 + 2 * n + 3 + n ≤ t then z else x_wr z k (z 3 (t - (3 + 2 * n + 3))).toNatClampNeg (z 4 (t - (3 + 2 * n + 3))))
  else if (t - 3) % 2 = 0 then x_wr z k (25 + (t - 3)) (z 3 ((t - 3) / 2)) else x_wr z k (25 + (t - 3)) (z 4 ((t - 3) / 2))
def x_redoB (z : x_S) (k i : Nat) : x_S := if x_isCell (x_held z k (25 + 2 * i)) = 0 then z else x_wr z k (x_held z k (25 + 2 * i)).toNatClampNeg (x_held z k (25 + 2 * i + 1))
def x_redoL (k : Nat) : Nat → Nat → x_S → x_S
  | 0, _, z => z
  | n + 1, i, z => x_redoL k n (i + 1) (x_redoB z k i)
def x_redo (z : x_S) (k : Nat) : Int32 × x_S := if x_held z k 24 < 1 then (0, z) else if x_held z k 24 ≤ 3 then (x_held z k 24, x_redoL k (x_held z k 24).toNatClampNeg 0 z) else (0, z)
def x_choose (z : x_S) : Int32 := if z 5 2 = z 6 2 then (if z 6 1 = 0 then 0 else 1) else if z 5 2 ≤ z 6 2 then 1 else 0
def x_diff (z : x_S) (s : Nat) : Int32 := if z (5 + s) 2 = z (5 + (1 - s)) 2 then z (5 + s) 5 ||| z (5 + (1 - s)) 5 else if z (5 + s) 4 = 0 then 255 else if z (5 + s) 3 = z (5 + (1 - s)) 2 then z (5 + s) 5 ||| z (5 + (1 - s)) 5 else 255
def x_start (z : x_S) (s : Nat) (d : Int32) : x_S := x_up (x_up (x_up (x_up (x_up z (5 + s) 5 d) (5 + (1 - s)) 5 0) (5 + (1 - s)) 2 0) (5 + (1 - s)) 4 0) 0 2 1
def x_fin (z : x_S) (s : Nat) : x_S :=
  let z1 := x_up z (5 + (1 - s)) 2 (z (5 + s) 2)
  let z2 := x_up (x_up (x_flush z1 0) 5 4 0) 5 5 0
  let z3 := x_up (x_up (x_flush z2 1) 6 4 0) 6 5 0
  x_up z3 0 2 0
def x_cpL (s : Nat) : Nat → Nat → x_S → x_S
  | 0, _, z => z
  | n + 1, i, z => x_cpL s n (i + 1) (x_put z (1 - s) i (x_held z s i))
def x_cp (z : x_S) (s e : Nat) : x_S := x_cpL s 4 (e * 4) z
def x_app (z : x_S) (n : Nat) (c v : Int32) : x_S := if n < 3 then x_up (x_up (x_up z 3 n c) 4 n v) 2 0 (nI n + 1) else z
def x_fillL (k : Nat) : Nat → Nat → x_S → x_S
  | 0, _, z => z
  | n + 1, i, z => x_fillL k n (i + 1) (x_up z (7 + k) i 0)
def x_erase (z : x_S) (k : Nat) : x_S := x_up (x_fillL k 32 0 z) (5 + k) 7 0
def x_renew (z : x_S) (k : Nat) : x_S := x_up (x_up (x_up (x_up (x_erase z k) (5 + k) 2 0) (5 + k) 3 0) (5 + k) 4 0) (5 + k) 5 0
def x_bc1 (a : Int32) : Int32 := a - (x_sh a 1 &&& 1431655765)
def x_bc2 (a : Int32) : Int32 := (a &&& 858993459) + (x_sh a 2 &&& 858993459)
def x_bc3 (a : Int32) : Int32 := (a + x_sh a 4) &&& 252645135
def x_bc4 (a : Int32) : Int32 := a + x_sh a 8
def x_bc5 (a : Int32) : Int32 := a + x_sh a 16
def x_bc (a : Int32) : Int32 := x_bc5 (x_bc4 (x_bc3 (x_bc2 (x_bc1 a)))) &&& 63
def x_nt4 (b n : Int32) : Int32 := if b ≤ 4 then n + x_sh b 1 else (n + 2) + x_sh (x_sh b 2) 1
def x_nt3 (b n : Int32) : Int32 := if b ≤ 16 then x_nt4 b n else x_nt4 (x_sh b 4) (n + 4)
def x_nt2 (b n : Int32) : Int32 := if b ≤ 256 then x_nt3 b n else x_nt3 (x_sh b 8) (n + 8)
def x_nt1 (b n : Int32) : Int32 := if b ≤ 65536 then x_nt2 b n else x_nt2 (x_sh b 16) (n + 16)
def x_ntz (a : Int32) : Int32 := if 0 < (a ^^^ (-1)) &&& (a - 1) then x_nt1 ((a ^^^ (-1)) &&& (a - 1)) 1 else ((a ^^^ (-1)) &&& (a - 1)) &&& 32
section XW3
variable {cI cN : ClassId} {ad : Nat → Nat} {z : x_S}
theorem x_sN0 {i : Nat} (h : i < 7) (v : Int32) : (x_w cI cN ad z).set 6 (ad 6, .inr (2, (x_fN0 ad z).set (1 + i) (.int v))) = x_w cI cN ad (x_up z 5 i v) := by
  match i, h with
  | 0, _ => rfl
  | 1, _ => rfl
  | 2, _ => rfl
  | 3, _ => rfl
  | 4, _ => rfl
  | 5, _ => rfl
  | 6, _ => rfl
theorem x_sN1 {i : Nat} (h : i < 7) (v : Int32) : (x_w cI cN ad z).set 7 (ad 7, .inr (2, (x_fN1 ad z).set (1 + i) (.int v))) = x_w cI cN ad (x_up z 6 i v) := by
  match i, h with
  | 0, _ => rfl
  | 1, _ => rfl
  | 2, _ => rfl
  | 3, _ => rfl
  | 4, _ => rfl
  | 5, _ => rfl
  | 6, _ => rfl
end XW3
theorem x_n32 (n : Nat) : (3 : Int32) + 2 * nI n = nI (3 + 2 * n) := by
  show nI 3 + nI 2 * nI n = _
  rw [pk_mul, nI_add]
theorem x_nadd (a b : Nat) : nI a + nI b = nI (a + b) := nI_add a b
theorem x_nmul (a b : Nat) : nI a * nI b = nI (a * b) := pk_mul a b
theorem x_cellE {c : Int32} (h : ¬ x_isCell c = 0) : ∃ b : Nat, b < 24 ∧ c = nI b := by
  unfold x_isCell at h
  by_cases h0 : c < 0
  · simp [h0] at h
  · by_cases h1 : (24 : Int32) ≤ c
    · simp [h0, h1] at h
    · rcases pk_ix c (n := 24) (by decide) with q | q | q
      · exact absurd q h0
      · exact absurd q h1
      · exact q
theorem x_nodeE {c : Int32} (h : ¬ x_isNode c = 0) : ∃ b : Nat, b < 2 ∧ c = nI b := by
  unfold x_isNode at h
  by_cases h0 : c < 0
  · simp [h0] at h
  · by_cases h1 : (2 : Int32) ≤ c
    · simp [h0, h1] at h
    · rcases pk_ix c (n := 2) (by decide) with q | q | q
      · exact absurd q h0
      · exact absurd q h1
      · exact q
theorem x_oneTo3 {r : Int32} (h1 : ¬ r < 1) (h3 : r ≤ 3) : ∃ e : Nat, 1 ≤ e ∧ e ≤ 3 ∧ r = nI e := by
  have h0 : ¬ r < 0 := fun h => h1 (Int32.lt_trans h (by decide))
  obtain ⟨j, hj, rfl⟩ := nI_of h0
  refine ⟨j, ?_, ?_, rfl⟩
  · rcases Nat.lt_or_ge j 1 with q | q
    · exact absurd (show nI j < nI 1 from nI_lt q (by decide)) h1
    · exact q
  · exact (nI_leI (b := 3) hj (by decide)).mp h3
