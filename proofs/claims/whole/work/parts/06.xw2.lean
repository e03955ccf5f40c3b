-- ===== 06.xw2: the two nodes by number; booleans
def x_fN0 (ad : Nat → Nat) (z : x_S) : List Value := [.ref (ad 8), .int (z 5 0), .int (z 5 1), .int (z 5 2), .int (z 5 3), .int (z 5 4), .int (z 5 5), .int (z 5 6)]
def x_fN1 (ad : Nat → Nat) (z : x_S) : List Value := [.ref (ad 9), .int (z 6 0), .int (z 6 1), .int (z 6 2), .int (z 6 3), .int (z 6 4), .int (z 6 5), .int (z 6 6)]
theorem x_hN0 {cI cN : ClassId} {ad : Nat → Nat} {z : x_S} : (x_w cI cN ad z)[6]? = some (ad 6, .inr (2, x_fN0 ad z)) := rfl
theorem x_hN1 {cI cN : ClassId} {ad : Nat → Nat} {z : x_S} : (x_w cI cN ad z)[7]? = some (ad 7, .inr (2, x_fN1 ad z)) := rfl
theorem x_nf_0 {ad : Nat → Nat} : va_rf (x_nf ad (nI 0).toNatClampNeg) = .ref (ad 6) := x_nf_at (k := 0) (by decide)
theorem x_nf_1 {ad : Nat → Nat} : va_rf (x_nf ad (nI 1).toNatClampNeg) = .ref (ad 7) := x_nf_at (k := 1) (by decide)
theorem x_nb {v : Int32} (h : v = 0 ∨ v = 1) : narrow .boolean (.int v) = .int v := by rcases h with rfl | rfl <;> rfl
theorem x_fb {v : Int32} (h : v = 0 ∨ v = 1) : fits .boolean (.int v) = true := by rcases h with rfl | rfl <;> rfl
