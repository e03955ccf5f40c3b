-- ===== 29.bits: the first family of kit/laws/BITS.to-paste (pasted), and what this claim wants of it
def bt (x : Int32) (i : Nat) : Bool := x.toBitVec.getLsbD i
theorem b_ext {x y : Int32} (h : ∀ i, i < 32 → bt x i = bt y i) : x = y := Int32.toBitVec_inj.mp (BitVec.eq_of_getLsbD_eq (fun i hi => h i hi))
theorem b_or (x y : Int32) (i : Nat) : bt (x ||| y) i = (bt x i || bt y i) := by unfold bt; rw [Int32.toBitVec_or, BitVec.getLsbD_or]
theorem b_and (x y : Int32) (i : Nat) : bt (x &&& y) i = (bt x i && bt y i) := by unfold bt; rw [Int32.toBitVec_and, BitVec.getLsbD_and]
theorem b_big {x : Int32} {i : Nat} (h : 32 ≤ i) : bt x i = false := BitVec.getLsbD_of_ge _ _ h
theorem b_0 (i : Nat) : bt 0 i = false := BitVec.getLsbD_zero
theorem s_l : ∀ n, n < 32 → ((nI n &&& 31).toBitVec.smod 32).toNat = n := by decide +kernel
theorem s_u : ∀ n, n < 32 → (((nI n).toUInt32 &&& Int32.toUInt32 31).toBitVec % 32).toNat = n := by decide +kernel
theorem b_ushr (n : Nat) (hn : n < 32) (x : Int32) (i : Nat) : bt ((x.toUInt32 >>> ((nI n).toUInt32 &&& Int32.toUInt32 31)).toInt32) i = bt x (n + i) := by
  show (x.toUInt32 >>> ((nI n).toUInt32 &&& Int32.toUInt32 31)).toBitVec.getLsbD i = x.toUInt32.toBitVec.getLsbD (n + i)
  rw [UInt32.toBitVec_shiftRight]
  show (x.toUInt32.toBitVec >>> (((nI n).toUInt32 &&& Int32.toUInt32 31).toBitVec % 32).toNat).getLsbD i = _
  rw [s_u n hn, BitVec.getLsbD_ushiftRight]
theorem b_1 : ∀ i, i < 32 → bt 1 i = decide (i = 0) := by decide +kernel
theorem b_15 : ∀ i, i < 32 → bt 15 i = decide (i < 4) := by decide +kernel
theorem b_shl1 : ∀ n, n < 32 → ∀ i, i < 32 → bt ((1 : Int32) <<< (nI n &&& 31)) i = decide (i = n) := by decide +kernel
theorem b_one (x : Int32) : (x &&& 1 = 1) ↔ bt x 0 = true := by
  constructor
  · intro h
    have := congrArg (fun q => bt q 0) h
    simpa [b_and, b_1 0 (by decide)] using this
  · intro h
    apply b_ext
    intro i hi
    rw [b_and, b_1 i hi]
    by_cases q : i = 0
    · subst q; simp [h]
    · simp [q]
theorem x_bit (x : Int32) {i : Nat} (hi : i < 32) : (x_sh x (nI i) &&& 1 = 1) ↔ bt x i = true := by
  rw [b_one]; unfold x_sh; rw [b_ushr i hi]; rfl
theorem x_nib (x : Int32) {e : Nat} (he : e < 8) : (x_sh x (nI e * 4) &&& 15 = 0) ↔ ∀ j, j < 4 → bt x (4 * e + j) = false := by
  have e4 : nI e * 4 = nI (4 * e) := by rw [show nI e * 4 = nI (e * 4) from x_nmul e 4, Nat.mul_comm]
  rw [e4]
  unfold x_sh
  constructor
  · intro h j hj
    have := congrArg (fun q => bt q j) h
    simpa [b_and, b_15 j (by omega), hj, b_ushr (4 * e) (by omega), b_0] using this
  · intro h
    apply b_ext
    intro i hi
    rw [b_and, b_15 i hi, b_ushr (4 * e) (by omega), b_0]
    by_cases q : i < 4
    · rw [h i q]; rfl
    · simp [q]
theorem b_set {x : Int32} {b i : Nat} (hb : b < 32) (hi : i < 32) : bt (x ||| ((1 : Int32) <<< (nI b &&& 31))) i = (bt x i || decide (i = b)) := by
  rw [b_or, b_shl1 b hb i hi]
theorem b_m1 : ∀ i, i < 32 → bt (-1) i = true := by decide +kernel
