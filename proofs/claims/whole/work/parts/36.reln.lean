-- ===== 36.reln: the count of bits; node
theorem n_and_split (a b c d : Nat) (ha : a < 256) (hc : c < 256) : (a + 256 * b) &&& (c + 256 * d) = (a &&& c) + 256 * (b &&& d) := by
  have h1 := Nat.and_mod_two_pow (a := a + 256 * b) (b := c + 256 * d) (n := 8)
  have h2 := Nat.and_div_two_pow (a := a + 256 * b) (b := c + 256 * d) (n := 8)
  rw [show (2 : Nat) ^ 8 = 256 from rfl] at h1 h2
  rw [show (a + 256 * b) % 256 = a by omega, show (c + 256 * d) % 256 = c by omega] at h1
  rw [show (a + 256 * b) / 256 = b by omega, show (c + 256 * d) / 256 = d by omega] at h2
  have h3 := Nat.div_add_mod ((a + 256 * b) &&& (c + 256 * d)) 256
  rw [h1, h2] at h3
  omega
/-- four bytes, each under a mask of 256 -/
theorem n_and4 (a0 a1 a2 a3 m : Nat) (h0 : a0 < 256) (h1 : a1 < 256) (h2 : a2 < 256) (hm : m < 256) : (a0 + 256 * (a1 + 256 * (a2 + 256 * a3))) &&& (m + 256 * (m + 256 * (m + 256 * m))) = (a0 &&& m) + 256 * ((a1 &&& m) + 256 * ((a2 &&& m) + 256 * (a3 &&& m))) := by
  rw [n_and_split _ _ _ _ h0 hm, n_and_split _ _ _ _ h1 hm, n_and_split _ _ _ _ h2 hm]
def n_1 (b : Nat) : Nat := b - (b / 2 &&& 85)
def n_2 (c : Nat) : Nat := (c &&& 51) + (c / 4 &&& 51)
def n_3 (d : Nat) : Nat := d % 16 + d / 16
def n_P (b : Nat) : Nat := b % 2 + b / 2 % 2 + b / 4 % 2 + b / 8 % 2 + b / 16 % 2 + b / 32 % 2 + b / 64 % 2 + b / 128 % 2
theorem n_P_ok : ∀ b, b < 256 → n_3 (n_2 (n_1 b)) = n_P b := by decide +kernel
theorem n_1_lt : ∀ b, b < 256 → n_1 b < 256 ∧ (b / 2 &&& 85) ≤ b ∧ ∀ t, t < 2 → ((b / 2 + 128 * t) &&& 85) = (b / 2 &&& 85) := by decide +kernel
theorem n_2_lt : ∀ c, c < 256 → n_2 c < 256 ∧ n_2 c % 16 ≤ 6 ∧ n_2 c / 16 ≤ 6 ∧ ∀ t, t < 4 → ((c / 4 + 64 * t) &&& 51) = (c / 4 &&& 51) := by decide +kernel
theorem n_P_le : ∀ b, b < 256 → n_P b ≤ 8 := by decide +kernel
theorem n_3_and : ∀ d, d < 256 → d % 16 ≤ 6 → d / 16 ≤ 6 → ∀ t, t ≤ 6 → ((d + d / 16 + 16 * t) &&& 15) = n_3 d := by
  intro d hd h1 h2 t ht
  have e : (d + d / 16 + 16 * t) &&& 15 = (d + d / 16 + 16 * t) % 16 := Nat.and_two_pow_sub_one_eq_mod _ 4
  rw [e]; unfold n_3; omega
theorem x_shN {n k : Nat} (hn : n < 2 ^ 32) (s : Int32) (hs : ((s.toUInt32 &&& Int32.toUInt32 31).toBitVec % 32).toNat = k) : x_sh (nI n) s = nI (n / 2 ^ k) := pk_ushrN hn s k hs
theorem nx_and2 (a b : Nat) : nI a &&& nI b = nI (a &&& b) := by
  apply Int32.toBitVec_inj.1
  show BitVec.ofNat 32 a &&& BitVec.ofNat 32 b = BitVec.ofNat 32 (a &&& b)
  apply BitVec.eq_of_getLsbD_eq
  intro i hi
  simp [hi]
theorem n_bytes (n : Nat) (h : n < 2 ^ 32) : ∃ b0 b1 b2 b3, b0 < 256 ∧ b1 < 256 ∧ b2 < 256 ∧ b3 < 256 ∧ n = b0 + 256 * (b1 + 256 * (b2 + 256 * b3)) := ⟨n % 256, n / 256 % 256, n / 65536 % 256, n / 16777216, by omega, by omega, by omega, by omega, by omega⟩
theorem n_fin {P0 P1 P2 P3 : Nat} (q0 : P0 ≤ 8) (q1 : P1 ≤ 8) (q2 : P2 ≤ 8) (q3 : P3 ≤ 8) : (P0 + 256 * (P1 + 256 * (P2 + 256 * P3)) + (P0 + 256 * (P1 + 256 * (P2 + 256 * P3))) / 2 ^ 8 + (P0 + 256 * (P1 + 256 * (P2 + 256 * P3)) + (P0 + 256 * (P1 + 256 * (P2 + 256 * P3))) / 2 ^ 8) / 2 ^ 16) % 2 ^ 6 = P0 + P1 + P2 + P3 := by
  have f1 : (P0 + 256 * (P1 + 256 * (P2 + 256 * P3))) / 2 ^ 8 = P1 + 256 * (P2 + 256 * P3) := by omega
  rw [f1]
  have f2 : (P0 + 256 * (P1 + 256 * (P2 + 256 * P3)) + (P1 + 256 * (P2 + 256 * P3))) / 2 ^ 16 = (P2 + P3) + 256 * P3 := by omega
  rw [f2]
  omega
theorem n_bc {b0 b1 b2 b3 : Nat} (h0 : b0 < 256) (h1 : b1 < 256) (h2 : b2 < 256) (h3 : b3 < 256) : x_bc (nI (b0 + 256 * (b1 + 256 * (b2 + 256 * b3)))) = nI (n_P b0 + n_P b1 + n_P b2 + n_P b3) := by
  -- the first step
  obtain ⟨l0, s0, t0⟩ := n_1_lt b0 h0
  obtain ⟨l1, s1, t1⟩ := n_1_lt b1 h1
  obtain ⟨l2, s2, t2⟩ := n_1_lt b2 h2
  obtain ⟨l3, s3, t3⟩ := n_1_lt b3 h3
  have e1 : x_bc1 (nI (b0 + 256 * (b1 + 256 * (b2 + 256 * b3)))) = nI (n_1 b0 + 256 * (n_1 b1 + 256 * (n_1 b2 + 256 * n_1 b3))) := by
    unfold x_bc1
    rw [x_shN (k := 1) (by omega) 1 (by decide), show (1431655765 : Int32) = nI (85 + 256 * (85 + 256 * (85 + 256 * 85))) from rfl, nx_and2,
      show (b0 + 256 * (b1 + 256 * (b2 + 256 * b3))) / 2 ^ 1 = (b0 / 2 + 128 * (b1 % 2)) + 256 * ((b1 / 2 + 128 * (b2 % 2)) + 256 * ((b2 / 2 + 128 * (b3 % 2)) + 256 * (b3 / 2))) by omega,
      n_and4 _ _ _ _ _ (by omega) (by omega) (by omega) (by omega), t0 _ (by omega), t1 _ (by omega), t2 _ (by omega), pk_sub (by omega)]
    unfold n_1
    congr 1
    omega
  generalize hc0 : n_1 b0 = c0 at l0 e1
  generalize hc1 : n_1 b1 = c1 at l1 e1
  generalize hc2 : n_1 b2 = c2 at l2 e1
  generalize hc3 : n_1 b3 = c3 at l3 e1
  obtain ⟨m0, u0, v0, w0⟩ := n_2_lt c0 l0
  obtain ⟨m1, u1, v1, w1⟩ := n_2_lt c1 l1
  obtain ⟨m2, u2, v2, w2⟩ := n_2_lt c2 l2
  obtain ⟨m3, u3, v3, w3⟩ := n_2_lt c3 l3
  have e2 : x_bc2 (nI (c0 + 256 * (c1 + 256 * (c2 + 256 * c3)))) = nI (n_2 c0 + 256 * (n_2 c1 + 256 * (n_2 c2 + 256 * n_2 c3))) := by
    unfold x_bc2
    rw [x_shN (k := 2) (by omega) 2 (by decide), show (858993459 : Int32) = nI (51 + 256 * (51 + 256 * (51 + 256 * 51))) from rfl, nx_and2, nx_and2,
      show (c0 + 256 * (c1 + 256 * (c2 + 256 * c3))) / 2 ^ 2 = (c0 / 4 + 64 * (c1 % 4)) + 256 * ((c1 / 4 + 64 * (c2 % 4)) + 256 * ((c2 / 4 + 64 * (c3 % 4)) + 256 * (c3 / 4))) by omega,
      n_and4 c0 c1 c2 c3 _ l0 l1 l2 (by omega), n_and4 (c0 / 4 + 64 * (c1 % 4)) _ _ _ _ (by omega) (by omega) (by omega) (by omega), w0 _ (by omega), w1 _ (by omega), w2 _ (by omega), nI_add]
    unfold n_2
    congr 1
    omega
  generalize hd0 : n_2 c0 = d0 at m0 u0 v0 e2
  generalize hd1 : n_2 c1 = d1 at m1 u1 v1 e2
  generalize hd2 : n_2 c2 = d2 at m2 u2 v2 e2
  generalize hd3 : n_2 c3 = d3 at m3 u3 v3 e2
  have e3 : x_bc3 (nI (d0 + 256 * (d1 + 256 * (d2 + 256 * d3)))) = nI (n_3 d0 + 256 * (n_3 d1 + 256 * (n_3 d2 + 256 * n_3 d3))) := by
    unfold x_bc3
    rw [x_shN (k := 4) (by omega) 4 (by decide), show (252645135 : Int32) = nI (15 + 256 * (15 + 256 * (15 + 256 * 15))) from rfl, nI_add, nx_and2,
      show d0 + 256 * (d1 + 256 * (d2 + 256 * d3)) + (d0 + 256 * (d1 + 256 * (d2 + 256 * d3))) / 2 ^ 4 = (d0 + d0 / 16 + 16 * (d1 % 16)) + 256 * ((d1 + d1 / 16 + 16 * (d2 % 16)) + 256 * ((d2 + d2 / 16 + 16 * (d3 % 16)) + 256 * (d3 + d3 / 16 + 16 * 0))) by omega,
      n_and4 _ _ _ _ _ (by omega) (by omega) (by omega) (by omega), n_3_and d0 m0 u0 v0 _ u1, n_3_and d1 m1 u1 v1 _ u2, n_3_and d2 m2 u2 v2 _ u3, n_3_and d3 m3 u3 v3 _ (by omega)]
  have p0 : n_3 d0 = n_P b0 := by rw [← hd0, ← hc0]; exact n_P_ok b0 h0
  have p1 : n_3 d1 = n_P b1 := by rw [← hd1, ← hc1]; exact n_P_ok b1 h1
  have p2 : n_3 d2 = n_P b2 := by rw [← hd2, ← hc2]; exact n_P_ok b2 h2
  have p3 : n_3 d3 = n_P b3 := by rw [← hd3, ← hc3]; exact n_P_ok b3 h3
  have q0 := n_P_le b0 h0
  have q1 := n_P_le b1 h1
  have q2 := n_P_le b2 h2
  have q3 := n_P_le b3 h3
  unfold x_bc
  rw [e1, e2, e3, p0, p1, p2, p3]
  generalize n_P b0 = P0 at q0 ⊢
  generalize n_P b1 = P1 at q1 ⊢
  generalize n_P b2 = P2 at q2 ⊢
  generalize n_P b3 = P3 at q3 ⊢
  unfold x_bc4
  rw [x_shN (k := 8) (by omega) 8 (by decide), nI_add]
  unfold x_bc5
  rw [x_shN (k := 16) (by omega) 16 (by decide), nI_add, show (63 : Int32) = nI 63 from rfl, nx_and2]
  congr 1
  rw [show (63 : Nat) = 2 ^ 6 - 1 from rfl, Nat.and_two_pow_sub_one_eq_mod]
  exact n_fin q0 q1 q2 q3
-- the reference's count
def r_pc (x : Int32) : Nat → Nat → Int32 → Int32
  | 0, _, a => a
  | n + 1, i, a => r_pc x n (i + 1) (if bt x i then a + 1 else a + 0)
theorem r_hasL {z y : x_S} {k : Nat} (hk : k < 2) (h : r_A z y) : ∀ (n i : Nat) (a : Int32), i + n ≤ 32 → k_hasL y k n i a = r_pc (z (5 + k) 7) n i a := by
  intro n
  induction n with
  | zero => intro i a _; rfl
  | succ n ih =>
    intro i a hi
    rw [k_hasL, r_pc, ih (i + 1) _ (by omega)]
    congr 1
    rw [h.2.2.2.2.2 k hk i (by omega)]
    by_cases q : bt (z (5 + k) 7) i = true
    · rw [if_pos q, if_pos q, if_neg (by decide)]
    · rw [if_neg q, if_neg q, if_pos rfl]
theorem r_btN {n i : Nat} (hi : i < 32) : bt (nI n) i = decide (n / 2 ^ i % 2 = 1) := by
  unfold bt
  show (BitVec.ofNat 32 n).getLsbD i = _
  rw [BitVec.getLsbD_ofNat, Nat.testBit_eq_decide_div_mod_eq]
  simp [hi]
def n_S (n : Nat) : Nat → Nat → Nat
  | 0, _ => 0
  | m + 1, i => n / 2 ^ i % 2 + n_S n m (i + 1)
theorem r_pcN (n : Nat) : ∀ (m i a : Nat), i + m ≤ 32 → r_pc (nI n) m i (nI a) = nI (a + n_S n m i) := by
  intro m
  induction m with
  | zero => intro i a _; rfl
  | succ m ih =>
    intro i a hi
    rw [r_pc, n_S, r_btN (by omega)]
    have h2 : n / 2 ^ i % 2 = 0 ∨ n / 2 ^ i % 2 = 1 := by omega
    rcases h2 with q | q
    · rw [if_neg (by simp [q]), show nI a + 0 = nI a from nI_add a 0, ih (i + 1) a (by omega), q, Nat.zero_add]
    · rw [if_pos (by simp [q]), nI_1, ih (i + 1) (a + 1) (by omega), q, Nat.add_assoc]
theorem n_S_app (n : Nat) : ∀ (m m' i : Nat), n_S n (m + m') i = n_S n m i + n_S n m' (i + m) := by
  intro m
  induction m with
  | zero => intro m' i; rw [Nat.zero_add, n_S, Nat.zero_add, Nat.add_zero]
  | succ m ih => intro m' i; rw [show m + 1 + m' = (m + m') + 1 by omega, n_S, n_S, ih m' (i + 1), show i + 1 + m = i + (m + 1) by omega, Nat.add_assoc]
theorem n_S8 (n i : Nat) : n_S n 8 i = n_P (n / 2 ^ i % 256) := by
  simp only [n_S, Nat.pow_succ, ← Nat.div_div_eq_div_mul]
  generalize n / 2 ^ i = m
  unfold n_P
  omega
theorem n_S32 {b0 b1 b2 b3 : Nat} (h0 : b0 < 256) (h1 : b1 < 256) (h2 : b2 < 256) (h3 : b3 < 256) : n_S (b0 + 256 * (b1 + 256 * (b2 + 256 * b3))) 32 0 = n_P b0 + n_P b1 + n_P b2 + n_P b3 := by
  rw [show (32 : Nat) = 8 + (8 + (8 + 8)) from rfl, n_S_app, n_S_app, n_S_app, n_S8, n_S8, n_S8, n_S8]
  rw [show (b0 + 256 * (b1 + 256 * (b2 + 256 * b3))) / 2 ^ 0 % 256 = b0 by omega, show (b0 + 256 * (b1 + 256 * (b2 + 256 * b3))) / 2 ^ (0 + 8) % 256 = b1 by omega, show (b0 + 256 * (b1 + 256 * (b2 + 256 * b3))) / 2 ^ (0 + 8 + 8) % 256 = b2 by omega, show (b0 + 256 * (b1 + 256 * (b2 + 256 * b3))) / 2 ^ (0 + 8 + 8 + 8) % 256 = b3 by omega]
  omega
theorem x_bc_pc (x : Int32) : x_bc x = r_pc x 32 0 0 := by
  have hx : ∃ n : Nat, n < 2 ^ 32 ∧ x = nI n := ⟨x.toBitVec.toNat, x.toBitVec.isLt, by
    apply Int32.toBitVec_inj.1
    show x.toBitVec = BitVec.ofNat 32 x.toBitVec.toNat
    simp⟩
  obtain ⟨n, hn, rfl⟩ := hx
  obtain ⟨b0, b1, b2, b3, h0, h1, h2, h3, en⟩ := n_bytes n hn
  rw [en, n_bc h0 h1 h2 h3]
  have := r_pcN (b0 + 256 * (b1 + 256 * (b2 + 256 * b3))) 32 0 0 (by omega)
  rw [show (0 : Int32) = nI 0 from rfl, this, n_S32 h0 h1 h2 h3, Nat.zero_add]
theorem r_node {z y : x_S} {a w : Int32} (ho : r_one z) (h : r_A z y) : x_node z a w = k_node y a w := by
  have e : x_node z a w = if x_isNode a = 0 then -1 else if w = 0 then x_num (z (5 + a.toNatClampNeg) 0) else if w = 1 then x_num (z (5 + a.toNatClampNeg) 1) else if w = 2 then z (5 + a.toNatClampNeg) 2 else if w = 3 then z (5 + a.toNatClampNeg) 3 else if w = 4 then x_num (z (5 + a.toNatClampNeg) 4) else if w = 5 then z (5 + a.toNatClampNeg) 5 else if w = 6 then x_bc (z (5 + a.toNatClampNeg) 7) else if w = 7 then x_num (z (5 + a.toNatClampNeg) 6) else -1 := rfl
  rw [e]
  unfold k_node
  by_cases q : x_isNode a = 0
  · rw [if_pos q, if_neg ((x_isNode_out a).mp q)]
  rw [if_neg q, if_pos (Decidable.byContradiction fun r => q ((x_isNode_out a).mpr r))]
  obtain ⟨k, hk, ek⟩ := x_nodeE q
  subst ek
  rw [x_cl hk]
  unfold k_nodeT
  have hp : y 0 6 = nI k ↔ ¬ z (5 + k) 1 = 0 := by rw [h.2.1]; exact r_find ho hk
  have f0 : x_num (z (5 + k) 0) = if y (5 + k) 0 = 0 then 1 else 0 := by
    unfold x_num
    rcases h.2.2.2.1 k hk with ⟨p, r⟩ | ⟨p, r⟩ <;> rw [p, r] <;> decide
  have f6 : x_num (z (5 + k) 6) = if y (5 + k) 6 = 0 then 1 else 0 := by
    unfold x_num
    rcases h.2.2.2.2.1 k hk with ⟨p, r⟩ | ⟨p, r⟩ <;> rw [p, r] <;> decide
  have f1 : x_num (z (5 + k) 1) = if y 0 6 = nI k then 1 else 0 := by
    unfold x_num
    by_cases p : z (5 + k) 1 = 0
    · rw [if_pos p, if_neg (fun r => hp.mp r p)]
    · rw [if_neg p, if_pos (hp.mpr p)]
  have f4 : x_num (z (5 + k) 4) = if y (5 + k) 4 = 0 then 0 else 1 := by
    unfold x_num
    rw [h.at (r := 5 + k) (c := 4) (r_sh.n hk (by decide) (by decide))]
  rw [f0, f1, f4, f6, x_bc_pc, ← r_hasL hk h 32 0 0 (by decide), h.at (r := 5 + k) (c := 2) (r_sh.n hk (by decide) (by decide)), h.at (r := 5 + k) (c := 3) (r_sh.n hk (by decide) (by decide)), h.at (r := 5 + k) (c := 5) (r_sh.n hk (by decide) (by decide))]
