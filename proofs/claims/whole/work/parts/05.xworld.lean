-- ===== 05.xworld: the class's cells at the addresses ad, as a function of the state z
-- row 0: lineUp connected syncing source; 1: length generation time holder end; 2: size; 3: batch cells; 4: batch values; 5+k: node k up primary generation base alone marks witnessLineUp cachedBits; 7+k: stable; 9+k: cached
def x_fM (ad : Nat → Nat) (z : x_S) : List Value := [.ref (ad 1), .ref (ad 2), .ref (ad 3), .int (z 0 0), .int (z 0 1), .int (z 0 2), .int (z 0 3)]
def x_fT (z : x_S) : List Value := [.int (z 1 0), .int (z 1 1), .int (z 1 2), .int (z 1 3), .int (z 1 4)]
def x_fB (ad : Nat → Nat) (z : x_S) : List Value := [.ref (ad 4), .ref (ad 5), .int (z 2 0)]
def x_fN (ad : Nat → Nat) (z : x_S) (k : Nat) : List Value := [.ref (ad (8 + k)), .int (z (5 + k) 0), .int (z (5 + k) 1), .int (z (5 + k) 2), .int (z (5 + k) 3), .int (z (5 + k) 4), .int (z (5 + k) 5), .int (z (5 + k) 6)]
def x_fD (ad : Nat → Nat) (z : x_S) (k : Nat) : List Value := [.ref (ad (10 + k)), .ref (ad (12 + k)), .int (z (5 + k) 7)]
def x_nf (ad : Nat → Nat) : Nat → Option Nat := va_up (va_up (fun _ => none) 0 (some (ad 6))) 1 (some (ad 7))
def x_w (cI cN : ClassId) (ad : Nat → Nat) (z : x_S) : va_W := [(ad 0, .inr (4, x_fM ad z)), (ad 1, .inl (cN, 2, .inr (.inr (.inr (.inr (x_nf ad)))))), (ad 2, .inr (3, x_fT z)), (ad 3, .inr (0, x_fB ad z)), (ad 4, .inl (cI, 3, .inl (z 3))), (ad 5, .inl (cI, 3, .inl (z 4))), (ad 6, .inr (2, x_fN ad z 0)), (ad 7, .inr (2, x_fN ad z 1)), (ad 8, .inr (1, x_fD ad z 0)), (ad 9, .inr (1, x_fD ad z 1)), (ad 10, .inl (cI, 32, .inl (z 7))), (ad 11, .inl (cI, 32, .inl (z 8))), (ad 12, .inl (cI, 32, .inl (z 9))), (ad 13, .inl (cI, 32, .inl (z 10)))]
abbrev x_ty (cI cN : ClassId) : List (ClassId × FieldType) := [(cI, .int), (cN, .object R_N)]
section XW
variable {cI cN : ClassId} {ad : Nat → Nat} {z : x_S}
theorem x_hM : (x_w cI cN ad z)[0]? = some (ad 0, .inr (4, x_fM ad z)) := rfl
theorem x_hA : (x_w cI cN ad z)[1]? = some (ad 1, .inl (cN, 2, .inr (.inr (.inr (.inr (x_nf ad)))))) := rfl
theorem x_hT : (x_w cI cN ad z)[2]? = some (ad 2, .inr (3, x_fT z)) := rfl
theorem x_hB : (x_w cI cN ad z)[3]? = some (ad 3, .inr (0, x_fB ad z)) := rfl
theorem x_hBc : (x_w cI cN ad z)[4]? = some (ad 4, .inl (cI, 3, .inl (z 3))) := rfl
theorem x_hBv : (x_w cI cN ad z)[5]? = some (ad 5, .inl (cI, 3, .inl (z 4))) := rfl
theorem x_hN {k : Nat} (h : k < 2) : (x_w cI cN ad z)[6 + k]? = some (ad (6 + k), .inr (2, x_fN ad z k)) := by
  match k, h with
  | 0, _ => rfl
  | 1, _ => rfl
theorem x_hD {k : Nat} (h : k < 2) : (x_w cI cN ad z)[8 + k]? = some (ad (8 + k), .inr (1, x_fD ad z k)) := by
  match k, h with
  | 0, _ => rfl
  | 1, _ => rfl
theorem x_hS {k : Nat} (h : k < 2) : (x_w cI cN ad z)[10 + k]? = some (ad (10 + k), .inl (cI, 32, .inl (z (7 + k)))) := by
  match k, h with
  | 0, _ => rfl
  | 1, _ => rfl
theorem x_hC {k : Nat} (h : k < 2) : (x_w cI cN ad z)[12 + k]? = some (ad (12 + k), .inl (cI, 32, .inl (z (9 + k)))) := by
  match k, h with
  | 0, _ => rfl
  | 1, _ => rfl
theorem x_nf_at {k : Nat} (h : k < 2) : va_rf (x_nf ad (nI k).toNatClampNeg) = .ref (ad (6 + k)) := by
  rw [nI_clamp (by omega)]
  match k, h with
  | 0, _ => rfl
  | 1, _ => rfl
-- what a put makes of the world
theorem x_sM {i : Nat} (h : i < 4) (v : Int32) : (x_w cI cN ad z).set 0 (ad 0, .inr (4, (x_fM ad z).set (3 + i) (.int v))) = x_w cI cN ad (x_up z 0 i v) := by
  match i, h with
  | 0, _ => rfl
  | 1, _ => rfl
  | 2, _ => rfl
  | 3, _ => rfl
theorem x_sT {i : Nat} (h : i < 5) (v : Int32) : (x_w cI cN ad z).set 2 (ad 2, .inr (3, (x_fT z).set i (.int v))) = x_w cI cN ad (x_up z 1 i v) := by
  match i, h with
  | 0, _ => rfl
  | 1, _ => rfl
  | 2, _ => rfl
  | 3, _ => rfl
  | 4, _ => rfl
theorem x_sB (v : Int32) : (x_w cI cN ad z).set 3 (ad 3, .inr (0, (x_fB ad z).set 2 (.int v))) = x_w cI cN ad (x_up z 2 0 v) := rfl
theorem x_sBc (j : Nat) (v : Int32) : (x_w cI cN ad z).set 4 (ad 4, .inl (cI, 3, .inl (upd (z 3) j v))) = x_w cI cN ad (x_up z 3 j v) := rfl
theorem x_sBv (j : Nat) (v : Int32) : (x_w cI cN ad z).set 5 (ad 5, .inl (cI, 3, .inl (upd (z 4) j v))) = x_w cI cN ad (x_up z 4 j v) := rfl
theorem x_sN {k i : Nat} (hk : k < 2) (h : i < 7) (v : Int32) : (x_w cI cN ad z).set (6 + k) (ad (6 + k), .inr (2, (x_fN ad z k).set (1 + i) (.int v))) = x_w cI cN ad (x_up z (5 + k) i v) := by
  match k, hk, i, h with
  | 0, _, 0, _ => rfl
  | 0, _, 1, _ => rfl
  | 0, _, 2, _ => rfl
  | 0, _, 3, _ => rfl
  | 0, _, 4, _ => rfl
  | 0, _, 5, _ => rfl
  | 0, _, 6, _ => rfl
  | 1, _, 0, _ => rfl
  | 1, _, 1, _ => rfl
  | 1, _, 2, _ => rfl
  | 1, _, 3, _ => rfl
  | 1, _, 4, _ => rfl
  | 1, _, 5, _ => rfl
  | 1, _, 6, _ => rfl
theorem x_sD {k : Nat} (hk : k < 2) (v : Int32) : (x_w cI cN ad z).set (8 + k) (ad (8 + k), .inr (1, (x_fD ad z k).set 2 (.int v))) = x_w cI cN ad (x_up z (5 + k) 7 v) := by
  match k, hk with
  | 0, _ => rfl
  | 1, _ => rfl
theorem x_sS {k : Nat} (hk : k < 2) (j : Nat) (v : Int32) : (x_w cI cN ad z).set (10 + k) (ad (10 + k), .inl (cI, 32, .inl (upd (z (7 + k)) j v))) = x_w cI cN ad (x_up z (7 + k) j v) := by
  match k, hk with
  | 0, _ => rfl
  | 1, _ => rfl
theorem x_sC {k : Nat} (hk : k < 2) (j : Nat) (v : Int32) : (x_w cI cN ad z).set (12 + k) (ad (12 + k), .inl (cI, 32, .inl (upd (z (9 + k)) j v))) = x_w cI cN ad (x_up z (9 + k) j v) := by
  match k, hk with
  | 0, _ => rfl
  | 1, _ => rfl
end XW
