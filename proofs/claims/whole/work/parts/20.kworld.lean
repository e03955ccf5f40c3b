-- ===== 20.kworld: the reference's cells at the addresses kd, as a function of its state z
-- row 0: 0 lineUp, 1 connected, 6 primary, 7 source; 1: lease witness time holder end; 2: entries; 3: entryCell; 4: entryValue; 5+k: 0 down, 2 generation, 3 base, 4 alone, 5 marks, 6 cutOff; 7+k: stable; 9+k: cached; 11+k: has
def k_col (z : x_S) (c : Nat) : Nat → Int32 := fun j => if j < 2 then z (5 + j) c else 0
def k_b (z : x_S) (r : Nat) : Nat → Int32 := fun j => if j < 64 then z (r + j / 32) (j % 32) else 0
theorem k_col_row {z : x_S} {r j c : Nat} {v : Int32} (h5 : r ≠ 5) (h6 : r ≠ 6) : k_col (x_up z r j v) c = k_col z c := by
  funext a
  unfold k_col
  split
  · rw [x_up_row (by omega)]
  · rfl
theorem k_col_c {z : x_S} {r j c : Nat} {v : Int32} (h : c ≠ j) : k_col (x_up z r j v) c = k_col z c := by
  funext a
  unfold k_col
  split
  · rw [x_up_col h]
  · rfl
theorem k_col_up {z : x_S} {k c : Nat} {v : Int32} (hk : k < 2) : k_col (x_up z (5 + k) c v) c = upd (k_col z c) k v := by
  funext a
  unfold k_col upd
  rw [x_up_at]
  by_cases h : a = k
  · subst h; simp [hk]
  · have : ¬ (5 + a = 5 + k) := by omega
    simp [h]
theorem k_b_row {z : x_S} {r j q : Nat} {v : Int32} (h : r ≠ q) (h1 : r ≠ q + 1) : k_b (x_up z r j v) q = k_b z q := by
  funext a
  unfold k_b
  split
  · rw [x_up_row (by omega)]
  · rfl
theorem k_b_up {z : x_S} {k b q : Nat} {v : Int32} (hk : k < 2) (hb : b < 32) : k_b (x_up z (q + k) b v) q = upd (k_b z q) (32 * k + b) v := by
  funext a
  unfold k_b upd
  rw [x_up_at]
  by_cases h : a = 32 * k + b
  · subst h
    rw [if_pos (by omega), if_pos (by omega), if_pos rfl]
  · rw [if_neg (show ¬ (q + a / 32 = q + k ∧ a % 32 = b) by omega), if_neg h]
theorem k_col_at {z : x_S} {k c : Nat} (hk : k < 2) : k_col z c (nI k).toNatClampNeg = z (5 + k) c := by
  rw [x_cl hk]; unfold k_col; rw [if_pos hk]
theorem k_cl64 {k b : Nat} (hk : k < 2) (hb : b < 32) : (nI (32 * k + b)).toNatClampNeg = 32 * k + b := nI_clamp (by omega)
theorem k_in64 {k b : Nat} (hk : k < 2) (hb : b < 32) : vp_in (nI (32 * k + b)) 64 := vp_in_nI (by omega) (by decide)
theorem k_b_at {z : x_S} {k b q : Nat} (hk : k < 2) (hb : b < 32) : k_b z q (nI (32 * k + b)).toNatClampNeg = z (q + k) b := by
  rw [k_cl64 hk hb]; unfold k_b
  rw [if_pos (by omega), show (32 * k + b) / 32 = k by omega, show (32 * k + b) % 32 = b by omega]
theorem k_ix {k b : Nat} : nI k * 32 + nI b = nI (32 * k + b) := by
  rw [show nI k * 32 = nI (k * 32) from x_nmul k 32, nI_add, Nat.mul_comm]
def k_f (kd : Nat → Nat) (z : x_S) : List Value := [.int (z 1 0), .ref (kd 1), .ref (kd 2), .ref (kd 3), .ref (kd 4), .ref (kd 5), .ref (kd 6), .ref (kd 7), .ref (kd 8), .ref (kd 9), .int (z 0 6), .int (z 0 7), .int (z 1 3), .int (z 0 1), .int (z 0 0), .int (z 1 1), .int (z 1 2), .int (z 1 4), .int (z 2 0), .ref (kd 10), .ref (kd 11)]
def k_W (cI cZ : ClassId) (kd : Nat → Nat) (f : List Value) (s c h dn al co ge ba ma ec ev : Nat → Int32) : va_W := [(kd 0, .inr (5, f)), (kd 1, .inl (cI, 64, .inl s)), (kd 2, .inl (cI, 64, .inl c)), (kd 3, .inl (cZ, 64, .inl h)), (kd 4, .inl (cZ, 2, .inl dn)), (kd 5, .inl (cZ, 2, .inl al)), (kd 6, .inl (cZ, 2, .inl co)), (kd 7, .inl (cI, 2, .inl ge)), (kd 8, .inl (cI, 2, .inl ba)), (kd 9, .inl (cI, 2, .inl ma)), (kd 10, .inl (cI, 3, .inl ec)), (kd 11, .inl (cI, 3, .inl ev))]
def k_w (cI cZ : ClassId) (kd : Nat → Nat) (z : x_S) : va_W := k_W cI cZ kd (k_f kd z) (k_b z 7) (k_b z 9) (k_b z 11) (k_col z 0) (k_col z 4) (k_col z 6) (k_col z 2) (k_col z 3) (k_col z 5) (z 3) (z 4)
abbrev k_ty (cI cZ : ClassId) : List (ClassId × FieldType) := [(cI, .int), (cZ, .boolean)]
section KW
variable {cI cZ : ClassId} {kd : Nat → Nat} {z : x_S}
theorem k_h0 : (k_w cI cZ kd z)[0]? = some (kd 0, .inr (5, k_f kd z)) := rfl
theorem k_h1 : (k_w cI cZ kd z)[1]? = some (kd 1, .inl (cI, 64, .inl (k_b z 7))) := rfl
theorem k_h2 : (k_w cI cZ kd z)[2]? = some (kd 2, .inl (cI, 64, .inl (k_b z 9))) := rfl
theorem k_h3 : (k_w cI cZ kd z)[3]? = some (kd 3, .inl (cZ, 64, .inl (k_b z 11))) := rfl
theorem k_h4 : (k_w cI cZ kd z)[4]? = some (kd 4, .inl (cZ, 2, .inl (k_col z 0))) := rfl
theorem k_h5 : (k_w cI cZ kd z)[5]? = some (kd 5, .inl (cZ, 2, .inl (k_col z 4))) := rfl
theorem k_h6 : (k_w cI cZ kd z)[6]? = some (kd 6, .inl (cZ, 2, .inl (k_col z 6))) := rfl
theorem k_h7 : (k_w cI cZ kd z)[7]? = some (kd 7, .inl (cI, 2, .inl (k_col z 2))) := rfl
theorem k_h8 : (k_w cI cZ kd z)[8]? = some (kd 8, .inl (cI, 2, .inl (k_col z 3))) := rfl
theorem k_h9 : (k_w cI cZ kd z)[9]? = some (kd 9, .inl (cI, 2, .inl (k_col z 5))) := rfl
theorem k_h10 : (k_w cI cZ kd z)[10]? = some (kd 10, .inl (cI, 3, .inl (z 3))) := rfl
theorem k_h11 : (k_w cI cZ kd z)[11]? = some (kd 11, .inl (cI, 3, .inl (z 4))) := rfl
theorem k_s0_0 (v : Int32) : (k_w cI cZ kd z).set 0 (kd 0, .inr (5, (k_f kd z).set 0 (.int v))) = k_w cI cZ kd (x_up z 1 0 v) := by
  have e1 : k_w cI cZ kd (x_up z 1 0 v) = k_W cI cZ kd (k_f kd (x_up z 1 0 v)) (k_b z 7) (k_b z 9) (k_b z 11) (k_col z 0) (k_col z 4) (k_col z 6) (k_col z 2) (k_col z 3) (k_col z 5) (z 3) (z 4) := by
    unfold k_w
    rw [k_b_row (by decide) (by decide), k_b_row (by decide) (by decide), k_b_row (by decide) (by decide), k_col_row (by decide) (by decide), k_col_row (by decide) (by decide), k_col_row (by decide) (by decide), k_col_row (by decide) (by decide), k_col_row (by decide) (by decide), k_col_row (by decide) (by decide), x_up_row (by decide), x_up_row (by decide)]
  rw [e1]; rfl
theorem k_s0_10 (v : Int32) : (k_w cI cZ kd z).set 0 (kd 0, .inr (5, (k_f kd z).set 10 (.int v))) = k_w cI cZ kd (x_up z 0 6 v) := by
  have e1 : k_w cI cZ kd (x_up z 0 6 v) = k_W cI cZ kd (k_f kd (x_up z 0 6 v)) (k_b z 7) (k_b z 9) (k_b z 11) (k_col z 0) (k_col z 4) (k_col z 6) (k_col z 2) (k_col z 3) (k_col z 5) (z 3) (z 4) := by
    unfold k_w
    rw [k_b_row (by decide) (by decide), k_b_row (by decide) (by decide), k_b_row (by decide) (by decide), k_col_row (by decide) (by decide), k_col_row (by decide) (by decide), k_col_row (by decide) (by decide), k_col_row (by decide) (by decide), k_col_row (by decide) (by decide), k_col_row (by decide) (by decide), x_up_row (by decide), x_up_row (by decide)]
  rw [e1]; rfl
theorem k_s0_11 (v : Int32) : (k_w cI cZ kd z).set 0 (kd 0, .inr (5, (k_f kd z).set 11 (.int v))) = k_w cI cZ kd (x_up z 0 7 v) := by
  have e1 : k_w cI cZ kd (x_up z 0 7 v) = k_W cI cZ kd (k_f kd (x_up z 0 7 v)) (k_b z 7) (k_b z 9) (k_b z 11) (k_col z 0) (k_col z 4) (k_col z 6) (k_col z 2) (k_col z 3) (k_col z 5) (z 3) (z 4) := by
    unfold k_w
    rw [k_b_row (by decide) (by decide), k_b_row (by decide) (by decide), k_b_row (by decide) (by decide), k_col_row (by decide) (by decide), k_col_row (by decide) (by decide), k_col_row (by decide) (by decide), k_col_row (by decide) (by decide), k_col_row (by decide) (by decide), k_col_row (by decide) (by decide), x_up_row (by decide), x_up_row (by decide)]
  rw [e1]; rfl
theorem k_s0_12 (v : Int32) : (k_w cI cZ kd z).set 0 (kd 0, .inr (5, (k_f kd z).set 12 (.int v))) = k_w cI cZ kd (x_up z 1 3 v) := by
  have e1 : k_w cI cZ kd (x_up z 1 3 v) = k_W cI cZ kd (k_f kd (x_up z 1 3 v)) (k_b z 7) (k_b z 9) (k_b z 11) (k_col z 0) (k_col z 4) (k_col z 6) (k_col z 2) (k_col z 3) (k_col z 5) (z 3) (z 4) := by
    unfold k_w
    rw [k_b_row (by decide) (by decide), k_b_row (by decide) (by decide), k_b_row (by decide) (by decide), k_col_row (by decide) (by decide), k_col_row (by decide) (by decide), k_col_row (by decide) (by decide), k_col_row (by decide) (by decide), k_col_row (by decide) (by decide), k_col_row (by decide) (by decide), x_up_row (by decide), x_up_row (by decide)]
  rw [e1]; rfl
theorem k_s0_13 (v : Int32) : (k_w cI cZ kd z).set 0 (kd 0, .inr (5, (k_f kd z).set 13 (.int v))) = k_w cI cZ kd (x_up z 0 1 v) := by
  have e1 : k_w cI cZ kd (x_up z 0 1 v) = k_W cI cZ kd (k_f kd (x_up z 0 1 v)) (k_b z 7) (k_b z 9) (k_b z 11) (k_col z 0) (k_col z 4) (k_col z 6) (k_col z 2) (k_col z 3) (k_col z 5) (z 3) (z 4) := by
    unfold k_w
    rw [k_b_row (by decide) (by decide), k_b_row (by decide) (by decide), k_b_row (by decide) (by decide), k_col_row (by decide) (by decide), k_col_row (by decide) (by decide), k_col_row (by decide) (by decide), k_col_row (by decide) (by decide), k_col_row (by decide) (by decide), k_col_row (by decide) (by decide), x_up_row (by decide), x_up_row (by decide)]
  rw [e1]; rfl
theorem k_s0_14 (v : Int32) : (k_w cI cZ kd z).set 0 (kd 0, .inr (5, (k_f kd z).set 14 (.int v))) = k_w cI cZ kd (x_up z 0 0 v) := by
  have e1 : k_w cI cZ kd (x_up z 0 0 v) = k_W cI cZ kd (k_f kd (x_up z 0 0 v)) (k_b z 7) (k_b z 9) (k_b z 11) (k_col z 0) (k_col z 4) (k_col z 6) (k_col z 2) (k_col z 3) (k_col z 5) (z 3) (z 4) := by
    unfold k_w
    rw [k_b_row (by decide) (by decide), k_b_row (by decide) (by decide), k_b_row (by decide) (by decide), k_col_row (by decide) (by decide), k_col_row (by decide) (by decide), k_col_row (by decide) (by decide), k_col_row (by decide) (by decide), k_col_row (by decide) (by decide), k_col_row (by decide) (by decide), x_up_row (by decide), x_up_row (by decide)]
  rw [e1]; rfl
theorem k_s0_15 (v : Int32) : (k_w cI cZ kd z).set 0 (kd 0, .inr (5, (k_f kd z).set 15 (.int v))) = k_w cI cZ kd (x_up z 1 1 v) := by
  have e1 : k_w cI cZ kd (x_up z 1 1 v) = k_W cI cZ kd (k_f kd (x_up z 1 1 v)) (k_b z 7) (k_b z 9) (k_b z 11) (k_col z 0) (k_col z 4) (k_col z 6) (k_col z 2) (k_col z 3) (k_col z 5) (z 3) (z 4) := by
    unfold k_w
    rw [k_b_row (by decide) (by decide), k_b_row (by decide) (by decide), k_b_row (by decide) (by decide), k_col_row (by decide) (by decide), k_col_row (by decide) (by decide), k_col_row (by decide) (by decide), k_col_row (by decide) (by decide), k_col_row (by decide) (by decide), k_col_row (by decide) (by decide), x_up_row (by decide), x_up_row (by decide)]
  rw [e1]; rfl
theorem k_s0_16 (v : Int32) : (k_w cI cZ kd z).set 0 (kd 0, .inr (5, (k_f kd z).set 16 (.int v))) = k_w cI cZ kd (x_up z 1 2 v) := by
  have e1 : k_w cI cZ kd (x_up z 1 2 v) = k_W cI cZ kd (k_f kd (x_up z 1 2 v)) (k_b z 7) (k_b z 9) (k_b z 11) (k_col z 0) (k_col z 4) (k_col z 6) (k_col z 2) (k_col z 3) (k_col z 5) (z 3) (z 4) := by
    unfold k_w
    rw [k_b_row (by decide) (by decide), k_b_row (by decide) (by decide), k_b_row (by decide) (by decide), k_col_row (by decide) (by decide), k_col_row (by decide) (by decide), k_col_row (by decide) (by decide), k_col_row (by decide) (by decide), k_col_row (by decide) (by decide), k_col_row (by decide) (by decide), x_up_row (by decide), x_up_row (by decide)]
  rw [e1]; rfl
theorem k_s0_17 (v : Int32) : (k_w cI cZ kd z).set 0 (kd 0, .inr (5, (k_f kd z).set 17 (.int v))) = k_w cI cZ kd (x_up z 1 4 v) := by
  have e1 : k_w cI cZ kd (x_up z 1 4 v) = k_W cI cZ kd (k_f kd (x_up z 1 4 v)) (k_b z 7) (k_b z 9) (k_b z 11) (k_col z 0) (k_col z 4) (k_col z 6) (k_col z 2) (k_col z 3) (k_col z 5) (z 3) (z 4) := by
    unfold k_w
    rw [k_b_row (by decide) (by decide), k_b_row (by decide) (by decide), k_b_row (by decide) (by decide), k_col_row (by decide) (by decide), k_col_row (by decide) (by decide), k_col_row (by decide) (by decide), k_col_row (by decide) (by decide), k_col_row (by decide) (by decide), k_col_row (by decide) (by decide), x_up_row (by decide), x_up_row (by decide)]
  rw [e1]; rfl
theorem k_s0_18 (v : Int32) : (k_w cI cZ kd z).set 0 (kd 0, .inr (5, (k_f kd z).set 18 (.int v))) = k_w cI cZ kd (x_up z 2 0 v) := by
  have e1 : k_w cI cZ kd (x_up z 2 0 v) = k_W cI cZ kd (k_f kd (x_up z 2 0 v)) (k_b z 7) (k_b z 9) (k_b z 11) (k_col z 0) (k_col z 4) (k_col z 6) (k_col z 2) (k_col z 3) (k_col z 5) (z 3) (z 4) := by
    unfold k_w
    rw [k_b_row (by decide) (by decide), k_b_row (by decide) (by decide), k_b_row (by decide) (by decide), k_col_row (by decide) (by decide), k_col_row (by decide) (by decide), k_col_row (by decide) (by decide), k_col_row (by decide) (by decide), k_col_row (by decide) (by decide), k_col_row (by decide) (by decide), x_up_row (by decide), x_up_row (by decide)]
  rw [e1]; rfl
theorem k_f_row {r j : Nat} {v : Int32} (h : 3 ≤ r) : k_f kd (x_up z r j v) = k_f kd z := by
  unfold k_f
  rw [x_up_row (show 0 ≠ r by omega), x_up_row (show 1 ≠ r by omega), x_up_row (show 2 ≠ r by omega)]
theorem k_s4 {k : Nat} (hk : k < 2) (v : Int32) : (k_w cI cZ kd z).set 4 (kd 4, .inl (cZ, 2, .inl (upd (k_col z 0) k v))) = k_w cI cZ kd (x_up z (5 + k) 0 v) := by
  have e1 : k_w cI cZ kd (x_up z (5 + k) 0 v) = k_W cI cZ kd (k_f kd z) (k_b z 7) (k_b z 9) (k_b z 11) (upd (k_col z 0) k v) (k_col z 4) (k_col z 6) (k_col z 2) (k_col z 3) (k_col z 5) (z 3) (z 4) := by
    unfold k_w
    rw [k_f_row (by omega), k_b_row (by omega) (by omega), k_b_row (by omega) (by omega), k_b_row (by omega) (by omega), k_col_up hk, k_col_c (c := 4) (by decide), k_col_c (c := 6) (by decide), k_col_c (c := 2) (by decide), k_col_c (c := 3) (by decide), k_col_c (c := 5) (by decide), x_up_row (show 3 ≠ 5 + k by omega), x_up_row (show 4 ≠ 5 + k by omega)]
  rw [e1]; rfl
theorem k_s5 {k : Nat} (hk : k < 2) (v : Int32) : (k_w cI cZ kd z).set 5 (kd 5, .inl (cZ, 2, .inl (upd (k_col z 4) k v))) = k_w cI cZ kd (x_up z (5 + k) 4 v) := by
  have e1 : k_w cI cZ kd (x_up z (5 + k) 4 v) = k_W cI cZ kd (k_f kd z) (k_b z 7) (k_b z 9) (k_b z 11) (k_col z 0) (upd (k_col z 4) k v) (k_col z 6) (k_col z 2) (k_col z 3) (k_col z 5) (z 3) (z 4) := by
    unfold k_w
    rw [k_f_row (by omega), k_b_row (by omega) (by omega), k_b_row (by omega) (by omega), k_b_row (by omega) (by omega), k_col_c (c := 0) (by decide), k_col_up hk, k_col_c (c := 6) (by decide), k_col_c (c := 2) (by decide), k_col_c (c := 3) (by decide), k_col_c (c := 5) (by decide), x_up_row (show 3 ≠ 5 + k by omega), x_up_row (show 4 ≠ 5 + k by omega)]
  rw [e1]; rfl
theorem k_s6 {k : Nat} (hk : k < 2) (v : Int32) : (k_w cI cZ kd z).set 6 (kd 6, .inl (cZ, 2, .inl (upd (k_col z 6) k v))) = k_w cI cZ kd (x_up z (5 + k) 6 v) := by
  have e1 : k_w cI cZ kd (x_up z (5 + k) 6 v) = k_W cI cZ kd (k_f kd z) (k_b z 7) (k_b z 9) (k_b z 11) (k_col z 0) (k_col z 4) (upd (k_col z 6) k v) (k_col z 2) (k_col z 3) (k_col z 5) (z 3) (z 4) := by
    unfold k_w
    rw [k_f_row (by omega), k_b_row (by omega) (by omega), k_b_row (by omega) (by omega), k_b_row (by omega) (by omega), k_col_c (c := 0) (by decide), k_col_c (c := 4) (by decide), k_col_up hk, k_col_c (c := 2) (by decide), k_col_c (c := 3) (by decide), k_col_c (c := 5) (by decide), x_up_row (show 3 ≠ 5 + k by omega), x_up_row (show 4 ≠ 5 + k by omega)]
  rw [e1]; rfl
theorem k_s7 {k : Nat} (hk : k < 2) (v : Int32) : (k_w cI cZ kd z).set 7 (kd 7, .inl (cI, 2, .inl (upd (k_col z 2) k v))) = k_w cI cZ kd (x_up z (5 + k) 2 v) := by
  have e1 : k_w cI cZ kd (x_up z (5 + k) 2 v) = k_W cI cZ kd (k_f kd z) (k_b z 7) (k_b z 9) (k_b z 11) (k_col z 0) (k_col z 4) (k_col z 6) (upd (k_col z 2) k v) (k_col z 3) (k_col z 5) (z 3) (z 4) := by
    unfold k_w
    rw [k_f_row (by omega), k_b_row (by omega) (by omega), k_b_row (by omega) (by omega), k_b_row (by omega) (by omega), k_col_c (c := 0) (by decide), k_col_c (c := 4) (by decide), k_col_c (c := 6) (by decide), k_col_up hk, k_col_c (c := 3) (by decide), k_col_c (c := 5) (by decide), x_up_row (show 3 ≠ 5 + k by omega), x_up_row (show 4 ≠ 5 + k by omega)]
  rw [e1]; rfl
theorem k_s8 {k : Nat} (hk : k < 2) (v : Int32) : (k_w cI cZ kd z).set 8 (kd 8, .inl (cI, 2, .inl (upd (k_col z 3) k v))) = k_w cI cZ kd (x_up z (5 + k) 3 v) := by
  have e1 : k_w cI cZ kd (x_up z (5 + k) 3 v) = k_W cI cZ kd (k_f kd z) (k_b z 7) (k_b z 9) (k_b z 11) (k_col z 0) (k_col z 4) (k_col z 6) (k_col z 2) (upd (k_col z 3) k v) (k_col z 5) (z 3) (z 4) := by
    unfold k_w
    rw [k_f_row (by omega), k_b_row (by omega) (by omega), k_b_row (by omega) (by omega), k_b_row (by omega) (by omega), k_col_c (c := 0) (by decide), k_col_c (c := 4) (by decide), k_col_c (c := 6) (by decide), k_col_c (c := 2) (by decide), k_col_up hk, k_col_c (c := 5) (by decide), x_up_row (show 3 ≠ 5 + k by omega), x_up_row (show 4 ≠ 5 + k by omega)]
  rw [e1]; rfl
theorem k_s9 {k : Nat} (hk : k < 2) (v : Int32) : (k_w cI cZ kd z).set 9 (kd 9, .inl (cI, 2, .inl (upd (k_col z 5) k v))) = k_w cI cZ kd (x_up z (5 + k) 5 v) := by
  have e1 : k_w cI cZ kd (x_up z (5 + k) 5 v) = k_W cI cZ kd (k_f kd z) (k_b z 7) (k_b z 9) (k_b z 11) (k_col z 0) (k_col z 4) (k_col z 6) (k_col z 2) (k_col z 3) (upd (k_col z 5) k v) (z 3) (z 4) := by
    unfold k_w
    rw [k_f_row (by omega), k_b_row (by omega) (by omega), k_b_row (by omega) (by omega), k_b_row (by omega) (by omega), k_col_c (c := 0) (by decide), k_col_c (c := 4) (by decide), k_col_c (c := 6) (by decide), k_col_c (c := 2) (by decide), k_col_c (c := 3) (by decide), k_col_up hk, x_up_row (show 3 ≠ 5 + k by omega), x_up_row (show 4 ≠ 5 + k by omega)]
  rw [e1]; rfl
theorem k_s1 {k b : Nat} (hk : k < 2) (hb : b < 32) (v : Int32) : (k_w cI cZ kd z).set 1 (kd 1, .inl (cI, 64, .inl (upd (k_b z 7) (32 * k + b) v))) = k_w cI cZ kd (x_up z (7 + k) b v) := by
  have e1 : k_w cI cZ kd (x_up z (7 + k) b v) = k_W cI cZ kd (k_f kd z) (upd (k_b z 7) (32 * k + b) v) (k_b z 9) (k_b z 11) (k_col z 0) (k_col z 4) (k_col z 6) (k_col z 2) (k_col z 3) (k_col z 5) (z 3) (z 4) := by
    unfold k_w
    rw [k_f_row (by omega), k_b_up hk hb, k_b_row (q := 9) (by omega) (by omega), k_b_row (q := 11) (by omega) (by omega), k_col_row (c := 0) (by omega) (by omega), k_col_row (c := 4) (by omega) (by omega), k_col_row (c := 6) (by omega) (by omega), k_col_row (c := 2) (by omega) (by omega), k_col_row (c := 3) (by omega) (by omega), k_col_row (c := 5) (by omega) (by omega), x_up_row (show 3 ≠ 7 + k by omega), x_up_row (show 4 ≠ 7 + k by omega)]
  rw [e1]; rfl
theorem k_s2 {k b : Nat} (hk : k < 2) (hb : b < 32) (v : Int32) : (k_w cI cZ kd z).set 2 (kd 2, .inl (cI, 64, .inl (upd (k_b z 9) (32 * k + b) v))) = k_w cI cZ kd (x_up z (9 + k) b v) := by
  have e1 : k_w cI cZ kd (x_up z (9 + k) b v) = k_W cI cZ kd (k_f kd z) (k_b z 7) (upd (k_b z 9) (32 * k + b) v) (k_b z 11) (k_col z 0) (k_col z 4) (k_col z 6) (k_col z 2) (k_col z 3) (k_col z 5) (z 3) (z 4) := by
    unfold k_w
    rw [k_f_row (by omega), k_b_row (q := 7) (by omega) (by omega), k_b_up hk hb, k_b_row (q := 11) (by omega) (by omega), k_col_row (c := 0) (by omega) (by omega), k_col_row (c := 4) (by omega) (by omega), k_col_row (c := 6) (by omega) (by omega), k_col_row (c := 2) (by omega) (by omega), k_col_row (c := 3) (by omega) (by omega), k_col_row (c := 5) (by omega) (by omega), x_up_row (show 3 ≠ 9 + k by omega), x_up_row (show 4 ≠ 9 + k by omega)]
  rw [e1]; rfl
theorem k_s3 {k b : Nat} (hk : k < 2) (hb : b < 32) (v : Int32) : (k_w cI cZ kd z).set 3 (kd 3, .inl (cZ, 64, .inl (upd (k_b z 11) (32 * k + b) v))) = k_w cI cZ kd (x_up z (11 + k) b v) := by
  have e1 : k_w cI cZ kd (x_up z (11 + k) b v) = k_W cI cZ kd (k_f kd z) (k_b z 7) (k_b z 9) (upd (k_b z 11) (32 * k + b) v) (k_col z 0) (k_col z 4) (k_col z 6) (k_col z 2) (k_col z 3) (k_col z 5) (z 3) (z 4) := by
    unfold k_w
    rw [k_f_row (by omega), k_b_row (q := 7) (by omega) (by omega), k_b_row (q := 9) (by omega) (by omega), k_b_up hk hb, k_col_row (c := 0) (by omega) (by omega), k_col_row (c := 4) (by omega) (by omega), k_col_row (c := 6) (by omega) (by omega), k_col_row (c := 2) (by omega) (by omega), k_col_row (c := 3) (by omega) (by omega), k_col_row (c := 5) (by omega) (by omega), x_up_row (show 3 ≠ 11 + k by omega), x_up_row (show 4 ≠ 11 + k by omega)]
  rw [e1]; rfl
theorem k_s10 (j : Nat) (v : Int32) : (k_w cI cZ kd z).set 10 (kd 10, .inl (cI, 3, .inl (upd (z 3) j v))) = k_w cI cZ kd (x_up z 3 j v) := by
  have e1 : k_w cI cZ kd (x_up z 3 j v) = k_W cI cZ kd (k_f kd z) (k_b z 7) (k_b z 9) (k_b z 11) (k_col z 0) (k_col z 4) (k_col z 6) (k_col z 2) (k_col z 3) (k_col z 5) (upd (z 3) j v) (z 4) := by
    unfold k_w
    rw [k_f_row (by omega), k_b_row (by omega) (by omega), k_b_row (by omega) (by omega), k_b_row (by omega) (by omega), k_col_row (by omega) (by omega), k_col_row (by omega) (by omega), k_col_row (by omega) (by omega), k_col_row (by omega) (by omega), k_col_row (by omega) (by omega), k_col_row (by omega) (by omega), x_up_own, x_up_row (by decide)]
  rw [e1]; rfl
theorem k_s11 (j : Nat) (v : Int32) : (k_w cI cZ kd z).set 11 (kd 11, .inl (cI, 3, .inl (upd (z 4) j v))) = k_w cI cZ kd (x_up z 4 j v) := by
  have e1 : k_w cI cZ kd (x_up z 4 j v) = k_W cI cZ kd (k_f kd z) (k_b z 7) (k_b z 9) (k_b z 11) (k_col z 0) (k_col z 4) (k_col z 6) (k_col z 2) (k_col z 3) (k_col z 5) (z 3) (upd (z 4) j v) := by
    unfold k_w
    rw [k_f_row (by omega), k_b_row (by omega) (by omega), k_b_row (by omega) (by omega), k_b_row (by omega) (by omega), k_col_row (by omega) (by omega), k_col_row (by omega) (by omega), k_col_row (by omega) (by omega), k_col_row (by omega) (by omega), k_col_row (by omega) (by omega), k_col_row (by omega) (by omega), x_up_row (by decide), x_up_own]
  rw [e1]; rfl
end KW
