-- ===== 34.relk: marks; the end and the start of a sync; connect; resync
def r_m (v : Int32) : Prop := ∃ m : Nat, m < 256 ∧ v = nI m
theorem nx_or (a b : Nat) : nI a ||| nI b = nI (a ||| b) := by
  apply Int32.toBitVec_inj.1
  show BitVec.ofNat 32 a ||| BitVec.ofNat 32 b = BitVec.ofNat 32 (a ||| b)
  apply BitVec.eq_of_getLsbD_eq
  intro i hi
  simp [hi]
theorem r_m.or {a b : Int32} (ha : r_m a) (hb : r_m b) : r_m (a ||| b) := by
  obtain ⟨m, hm, rfl⟩ := ha
  obtain ⟨n, hn, rfl⟩ := hb
  exact ⟨m ||| n, Nat.or_lt_two_pow (n := 8) hm hn, nx_or m n⟩
theorem r_m_0 : r_m 0 := ⟨0, by decide, rfl⟩
theorem r_m_255 : r_m 255 := ⟨255, by decide, rfl⟩
theorem k_ext_m : ∀ b, b < 32 → k_ext b = nI (2 ^ (b / 4)) := by decide +kernel
theorem r_m_ext {b : Nat} (hb : b < 32) : r_m (k_ext b) := ⟨2 ^ (b / 4), by
  have : b / 4 < 8 := by omega
  calc 2 ^ (b / 4) < 2 ^ 8 := Nat.pow_lt_pow_right (by decide) this
    _ = 256 := by decide, k_ext_m b hb⟩
theorem r_m_shl : ∀ i, i < 8 → (1 : Int32) <<< (nI i &&& 31) = nI (2 ^ i) := by decide +kernel
theorem r_m_cexL (x : Int32) : ∀ (n i : Nat) (a : Int32), i + n ≤ 8 → r_m a → r_m (x_cexL x n i a) := by
  intro n
  induction n with
  | zero => intro i a _ h; exact h
  | succ n ih =>
    intro i a hi h
    rw [x_cexL]
    refine ih (i + 1) _ (by omega) ?_
    split
    · exact h
    · refine h.or ⟨2 ^ i, ?_, r_m_shl i (by omega)⟩
      calc 2 ^ i < 2 ^ 8 := Nat.pow_lt_pow_right (by decide) (by omega)
        _ = 256 := by decide
theorem x_held_up {z : x_S} {r c k b : Nat} {v : Int32} (h : r = 5 ∨ r = 6) (hc : c ≤ 6) : x_held (x_up z r c v) k b = x_held z k b := by
  unfold x_held x_isC
  rw [x_up_ne (show ¬ (5 + k = r ∧ 7 = c) by omega)]
  by_cases q7 : 7 + k = r
  · omega
  · by_cases q9 : 9 + k = r
    · omega
    · rw [x_up_ne (show ¬ (7 + k = r ∧ b = c) by omega), x_up_ne (show ¬ (9 + k = r ∧ b = c) by omega)]
theorem x_flush_up {z : x_S} {r c k : Nat} {v : Int32} (h : r = 5 ∨ r = 6) (hc : c ≤ 6) : x_flush (x_up z r c v) k = x_up (x_flush z k) r c v := by
  funext a b
  rw [x_flush_at, x_held_up h hc, x_up_at, x_up_at, x_flush_at]
  by_cases q : a = r ∧ b = c
  · rw [if_pos q, if_pos q, if_neg (show ¬ (a = 7 + k ∧ b < 32) by omega), if_neg (show ¬ (a = 5 + k ∧ b = 7) by omega)]
  · rw [if_neg q, if_neg q]
theorem x_fin_eq (z : x_S) {s : Nat} (hs : s < 2) : x_fin z s = x_up (x_up (x_up (x_up (x_up (x_up (x_flush (x_flush z 0) 1) (5 + (1 - s)) 2 (z (5 + s) 2)) 5 4 0) 5 5 0) 6 4 0) 6 5 0) 0 2 0 := by
  have e : x_fin z s = x_up (x_up (x_up (x_flush (x_up (x_up (x_flush (x_up z (5 + (1 - s)) 2 (z (5 + s) 2)) 0) 5 4 0) 5 5 0) 1) 6 4 0) 6 5 0) 0 2 0 := rfl
  rw [e, x_flush_up (k := 0) (by omega) (by decide), x_flush_up (k := 1) (Or.inl rfl) (by decide), x_flush_up (k := 1) (Or.inl rfl) (by decide), x_flush_up (k := 1) (by omega) (by decide)]
theorem r_A.fin {z y : x_S} {s : Nat} (hs : s < 2) (h : r_A z y) : r_A (x_fin z s) (k_fin y s) := by
  rw [x_fin_eq z hs]
  have g := (h.flush (k := 0) (by decide)).flush (k := 1) (by decide)
  have ev : k_settle (k_settle y 0) 1 (5 + s) 2 = z (5 + s) 2 := by
    rw [k_settle_out (by omega) (by omega), k_settle_out (by omega) (by omega)]
    exact h.at (r_sh.n hs (by decide) (by decide))
  exact (((((g.up (r_sh.n (k := 1 - s) (by omega) (by decide) (by decide)) ev).up (r_sh.n (k := 0) (by decide) (by decide) (by decide)) rfl).up (r_sh.n (k := 0) (by decide) (by decide) (by decide)) rfl).up (r_sh.n (k := 1) (by decide) (by decide) (by decide)) rfl).up (r_sh.n (k := 1) (by decide) (by decide) (by decide)) rfl).sync0
def r_ok (p q : Int32 × x_S) : Prop := p.1 = q.1 ∧ r_A p.2 q.2
theorem x_bc8 : ∀ m, m < 256 → x_bc (nI m) = k_cntL (nI m) 8 0 0 := by decide +kernel
theorem x_bc_0 : x_bc 0 = 0 := by decide +kernel
/-- what connect does, once source and extents are known -/
def x_conT (z : x_S) (s : Nat) (d : Int32) : Int32 × x_S := if d = 0 then (x_bc d, x_fin (x_up z 0 1 1) s) else (x_bc d, x_start (x_up z 0 1 1) s d)
theorem r_A.conT {z y : x_S} {s : Nat} {d : Int32} (hs : s < 2) (hd : r_m d) (h3 : z 0 3 = nI s) (h : r_A z y) : r_ok (x_conT z s d) (k_conT y s d) := by
  have g := h.up (r := 0) (c := 1) (v := 1) (w := 1) (Or.inl ⟨rfl, by decide⟩) rfl
  unfold x_conT k_conT
  by_cases q : d = 0
  · rw [if_pos q, if_pos q, q]
    exact ⟨x_bc_0, g.fin hs⟩
  · rw [if_neg q, if_neg q]
    obtain ⟨m, hm, rfl⟩ := hd
    refine ⟨x_bc8 m hm, ?_⟩
    unfold x_start
    have n1 : 1 - s < 2 := by omega
    refine ((((g.up (r_sh.n hs (by decide) (by decide)) rfl).up (r_sh.n n1 (by decide) (by decide)) rfl).up (r_sh.n n1 (by decide) (by decide)) rfl).up (r_sh.n n1 (by decide) (by decide)) rfl).sync1 ?_
    rw [x_up_ne (by omega), x_up_ne (by omega), x_up_ne (by omega), x_up_ne (by omega), x_up_ne (by omega)]
    exact h3.symm
theorem x_conn3_eq (z : x_S) : x_conn3 z = x_conT (x_up z 0 3 (x_choose z)) (x_choose z).toNatClampNeg (x_diff (x_up z 0 3 (x_choose z)) (x_choose z).toNatClampNeg) := rfl
theorem x_diff_up (z : x_S) (v : Int32) {s : Nat} (hs : s < 2) : x_diff (x_up z 0 3 v) s = x_diff z s := by
  unfold x_diff
  rw [x_up_row (show 5 + s ≠ 0 by omega), x_up_row (show 5 + (1 - s) ≠ 0 by omega)]
theorem x_diff_m {z : x_S} {s : Nat} (hs : s < 2) (hm : ∀ k, k < 2 → r_m (z (5 + k) 5)) : r_m (x_diff z s) := by
  unfold x_diff
  have h0 := (hm s hs).or (hm (1 - s) (by omega))
  repeat' split
  all_goals first | exact h0 | exact r_m_255
theorem r_or_comm (a b : Int32) : a ||| b = b ||| a := Int32.or_comm a b
theorem k_con3_eq {z y : x_S} (h : r_A z y) (ho : r_one z) : k_con3 y = k_conT y (x_choose z).toNatClampNeg (x_diff z (x_choose z).toNatClampNeg) := by
  have a52 : y 5 2 = z 5 2 := h.at (r_sh.n (k := 0) (by decide) (by decide) (by decide))
  have a62 : y 6 2 = z 6 2 := h.at (r_sh.n (k := 1) (by decide) (by decide) (by decide))
  have a53 : y 5 3 = z 5 3 := h.at (r_sh.n (k := 0) (by decide) (by decide) (by decide))
  have a63 : y 6 3 = z 6 3 := h.at (r_sh.n (k := 1) (by decide) (by decide) (by decide))
  have a54 : y 5 4 = z 5 4 := h.at (r_sh.n (k := 0) (by decide) (by decide) (by decide))
  have a64 : y 6 4 = z 6 4 := h.at (r_sh.n (k := 1) (by decide) (by decide) (by decide))
  have a55 : y 5 5 = z 5 5 := h.at (r_sh.n (k := 0) (by decide) (by decide) (by decide))
  have a65 : y 6 5 = z 6 5 := h.at (r_sh.n (k := 1) (by decide) (by decide) (by decide))
  have ap : y 0 6 = 1 ↔ ¬ z 6 1 = 0 := by rw [h.2.1]; exact r_find ho (k := 1) (by decide)
  have d0 : x_diff z 0 = if z 5 2 = z 6 2 then z 5 5 ||| z 6 5 else if z 5 4 = 0 then 255 else if z 5 3 = z 6 2 then z 5 5 ||| z 6 5 else 255 := rfl
  have d1 : x_diff z 1 = if z 6 2 = z 5 2 then z 6 5 ||| z 5 5 else if z 6 4 = 0 then 255 else if z 6 3 = z 5 2 then z 6 5 ||| z 5 5 else 255 := rfl
  have c0 : (0 : Int32).toNatClampNeg = 0 := by decide
  have c1 : (1 : Int32).toNatClampNeg = 1 := by decide
  unfold k_con3 k_con40 k_con41 x_choose
  rw [a52, a62, a53, a63, a54, a64, a55, a65]
  by_cases q : z 5 2 = z 6 2
  · rw [if_pos q, if_pos q, if_pos q]
    by_cases p : z 6 1 = 0
    · rw [if_pos p, c0, d0, if_pos q, if_neg (fun r => ap.mp r p)]
      split <;> rfl
    · rw [if_neg p, c1, d1, if_pos q.symm, if_pos (ap.mpr p), r_or_comm (z 6 5)]
      split <;> rfl
  · rw [if_neg q, if_neg q, if_neg q]
    by_cases p : z 5 2 ≤ z 6 2
    · have p' : ¬ z 6 2 ≤ z 5 2 := fun r => q (Int32.le_antisymm p r)
      rw [if_pos p, if_neg p', c1, d1, if_neg (show ¬ z 6 2 = z 5 2 from fun r => q r.symm), r_or_comm (z 6 5)]
      by_cases r1 : z 6 4 = 0
      · rw [if_pos r1, if_pos r1]
      · rw [if_neg r1, if_neg r1]
        by_cases r2 : z 6 3 = z 5 2
        · rw [if_pos r2, if_pos r2]
        · rw [if_neg r2, if_neg r2]
    · have p' : z 6 2 ≤ z 5 2 := by
        rcases Int32.le_total (z 5 2) (z 6 2) with r | r
        · exact absurd r p
        · exact r
      rw [if_neg p, if_pos p', c0, d0, if_neg q]
      by_cases r1 : z 5 4 = 0
      · rw [if_pos r1, if_pos r1]
      · rw [if_neg r1, if_neg r1]
        by_cases r2 : z 5 3 = z 6 2
        · rw [if_pos r2, if_pos r2]
        · rw [if_neg r2, if_neg r2]
theorem r_neg0 {a b : Int32} (h : r_neg a b) : a = 0 ↔ ¬ b = 0 := by
  rcases h with ⟨rfl, rfl⟩ | ⟨rfl, rfl⟩ <;> decide
theorem r_connect {z y : x_S} (h : r_A z y) (ho : r_one z) (hm : ∀ k, k < 2 → r_m (z (5 + k) 5)) (hs : z 0 1 = 0 → z 0 2 = 0) : r_ok (x_connect z) (k_connect y) := by
  have a01 : y 0 1 = z 0 1 := h.at (Or.inl ⟨rfl, by decide⟩)
  have a00 : y 0 0 = z 0 0 := h.at (Or.inl ⟨rfl, by decide⟩)
  have a52 : y 5 2 = z 5 2 := h.at (r_sh.n (k := 0) (by decide) (by decide) (by decide))
  have a62 : y 6 2 = z 6 2 := h.at (r_sh.n (k := 1) (by decide) (by decide) (by decide))
  have u0 : z 5 0 = 0 ↔ ¬ y 5 0 = 0 := r_neg0 (h.2.2.2.1 0 (by decide))
  have u1 : z 6 0 = 0 ↔ ¬ y 6 0 = 0 := r_neg0 (h.2.2.2.1 1 (by decide))
  unfold x_connect k_connect
  rw [a01, a00, a52, a62]
  by_cases q1 : z 0 1 = 0
  · rw [if_pos q1, if_pos q1]
    by_cases q2 : z 0 0 = 0
    · rw [if_pos q2, if_pos q2]; exact ⟨rfl, h⟩
    · rw [if_neg q2, if_neg q2]
      by_cases q3 : z 5 0 = 0
      · rw [if_pos q3, if_neg (u0.mp q3)]; exact ⟨rfl, h⟩
      · rw [if_neg q3, if_pos (Decidable.byContradiction fun r => q3 (u0.mpr r))]
        by_cases q4 : z 6 0 = 0
        · rw [if_pos q4, if_neg (u1.mp q4)]; exact ⟨rfl, h⟩
        · rw [if_neg q4, if_pos (Decidable.byContradiction fun r => q4 (u1.mpr r))]
          have main : r_ok (x_conn3 z) (k_con3 y) := by
            obtain ⟨s, hs2, es⟩ := x_chooseE z
            rw [x_conn3_eq, k_con3_eq h ho, es, x_cl hs2, x_diff_up z _ hs2]
            exact (h.src (v := nI s) (hs q1)).conT hs2 (x_diff_m hs2 hm) (x_up_eq z 0 3 (nI s))
          by_cases q5 : z 5 2 = 0
          · rw [if_pos q5, if_pos q5]
            by_cases q6 : z 6 2 = 0
            · rw [if_pos q6, if_pos q6]; exact ⟨rfl, h⟩
            · rw [if_neg q6, if_neg q6]; exact main
          · rw [if_neg q5, if_neg q5]; exact main
  · rw [if_neg q1, if_neg q1]; exact ⟨rfl, h⟩
-- resync
theorem r_A.cpL {s : Nat} (hs : s < 2) : ∀ (n i : Nat) (z y : x_S), i + n ≤ 32 → r_A z y → r_A (x_cpL s n i z) (k_cpL s n i y) := by
  intro n
  induction n with
  | zero => intro i z y _ h; exact h
  | succ n ih =>
    intro i z y hi h
    exact ih (i + 1) _ _ (by omega) (h.put (by omega) (by omega) (h.held hs (by omega)))
theorem r_bitE : ∀ m, m < 256 → ∀ i, i < 8 → ((nI m >>> (nI i &&& 31)) &&& 1 = 1 ↔ m / 2 ^ i % 2 = 1) := by decide +kernel
theorem r_subE : ∀ m, m < 256 → ∀ i, i < 8 → m / 2 ^ i % 2 = 1 → nI m - ((1 : Int32) <<< (nI i &&& 31)) = nI (m - 2 ^ i) := by decide +kernel
theorem r_lowE : ∀ m, m < 256 → ∀ i, i < 8 → m % 2 ^ i = 0 → m / 2 ^ i % 2 = 1 → x_low m = i := by decide +kernel
theorem r_low2 : ∀ m, m < 256 → ∀ i, i < 8 → m % 2 ^ i = 0 → m / 2 ^ i % 2 = 1 → (m - 2 ^ i) % 2 ^ (i + 1) = 0 := by decide +kernel
theorem r_low3 : ∀ m, m < 256 → ∀ i, i < 8 → m % 2 ^ i = 0 → ¬ m / 2 ^ i % 2 = 1 → m % 2 ^ (i + 1) = 0 := by decide +kernel
theorem r_A.rsL {s cn : Nat} (hs : s < 2) : ∀ (n i cp m : Nat) (z y : x_S), i + n = 8 → cp ≤ cn → m < 256 → z (5 + s) 5 = nI m → (cp < cn → m % 2 ^ i = 0) → r_A z y → r_A (x_rsL s (cn - cp) z) (k_rsL s cn n i y cp) := by
  intro n
  induction n with
  | zero =>
    intro i cp m z y hi hc hm hz hl h
    show r_A _ y
    by_cases q : cp < cn
    · have hi8 : i = 8 := by omega
      subst hi8
      have hm0 : m = 0 := by have := hl q; omega
      obtain ⟨d, hd⟩ : ∃ d, cn - cp = d + 1 := ⟨cn - cp - 1, by omega⟩
      rw [hd, x_rsL, if_pos (by rw [hz, hm0]; rfl)]
      exact h
    · rw [show cn - cp = 0 by omega]; exact h
  | succ n ih =>
    intro i cp m z y hi hc hm hz hl h
    have ey : y (5 + s) 5 = nI m := (h.at (r_sh.n hs (by decide) (by decide))).trans hz
    rw [k_rsL, ey]
    by_cases qb : m / 2 ^ i % 2 = 1
    · rw [if_pos ((r_bitE m hm i (by omega)).mpr qb)]
      by_cases qc : cn ≤ cp
      · rw [if_pos qc]
        exact ih (i + 1) cp m z y (by omega) hc hm hz (fun r => by omega) h
      · rw [if_neg qc, r_subE m hm i (by omega) qb]
        have hlo := hl (by omega)
        have hm0 : 0 < m := by
          rcases Nat.eq_zero_or_pos m with r | r
          · subst r; simp at qb
          · exact r
        obtain ⟨d, hd⟩ : ∃ d, cn - cp = d + 1 := ⟨cn - cp - 1, by omega⟩
        have el := r_lowE m hm i (by omega) hlo qb
        have eB : x_rsB z s = x_cp (x_up z (5 + s) 5 (nI (m - 2 ^ i))) s i := by
          unfold x_rsB
          rw [hz, x_ntz_low m hm hm0, x_clr m hm hm0, el, nI_clamp (by omega)]
        rw [hd, x_rsL, if_neg (by rw [hz]; exact nI_ne0 hm0 (by omega)), eB, show d = cn - (cp + 1) by omega]
        refine ih (i + 1) (cp + 1) (m - 2 ^ i) _ _ (by omega) (by omega) (by omega) ?_ (fun _ => r_low2 m hm i (by omega) hlo qb) ?_
        · rw [x_cp_row (by omega) (by omega), x_up_eq]
        · unfold x_cp
          rw [Nat.mul_comm i 4]
          exact r_A.cpL hs 4 (4 * i) _ _ (by omega) (h.up (r_sh.n hs (by decide) (by decide)) rfl)
    · rw [if_neg (fun r => qb ((r_bitE m hm i (by omega)).mp r))]
      exact ih (i + 1) cp m z y (by omega) hc hm hz (fun r => r_low3 m hm i (by omega) (hl r) qb) h
theorem x_rsL_m {s : Nat} (hs : s < 2) : ∀ (n m : Nat) (z : x_S), m < 256 → z (5 + s) 5 = nI m → r_m (x_rsL s n z (5 + s) 5) := by
  intro n
  induction n with
  | zero => intro m z hm hz; exact ⟨m, hm, hz⟩
  | succ n ih =>
    intro m z hm hz
    rw [x_rsL]
    by_cases q : z (5 + s) 5 = 0
    · rw [if_pos q]; exact ⟨m, hm, hz⟩
    · rw [if_neg q]
      have hm0 : 0 < m := Nat.pos_of_ne_zero (fun r => by rw [r] at hz; exact q hz)
      exact ih (m - 2 ^ x_low m) _ (Nat.lt_of_le_of_lt (Nat.sub_le _ _) hm) (x_rsB_m hs hm hm0 hz)
theorem r_resync {z y : x_S} {s : Nat} {a : Int32} (hs : s < 2) (h3 : z 0 3 = nI s) (hm : r_m (z (5 + s) 5)) (h : r_A z y) : r_ok (x_resync z a) (k_resync y s a) := by
  unfold x_resync k_resync
  by_cases q1 : a < 1
  · rw [if_pos q1, if_pos q1]; exact ⟨rfl, h⟩
  rw [if_neg q1, if_neg q1]
  by_cases q2 : 4 < a
  · rw [if_pos q2, if_pos q2]; exact ⟨rfl, h⟩
  rw [if_neg q2, if_neg q2, h.2.2.1, h3, x_cl hs]
  by_cases q3 : z 0 2 = 0
  · rw [if_pos q3, if_pos q3, if_pos rfl]; exact ⟨rfl, h⟩
  · rw [if_neg q3, if_neg q3, if_neg (show ¬ nI s = 2 by match s, hs with | 0, _ => decide | 1, _ => decide)]
    obtain ⟨cn, hc1, hc4, ea⟩ := x_oneTo4 q1 q2
    subst ea
    obtain ⟨m, hm2, em⟩ := hm
    have g := r_A.rsL (cn := cn) hs 8 0 0 m z y rfl (Nat.zero_le _) hm2 em (fun _ => Nat.mod_one m) h
    rw [Nat.sub_zero] at g
    rw [nI_clamp (by omega)]
    obtain ⟨m', hm', em'⟩ := x_rsL_m hs cn m z hm2 em
    have ey : k_rsL s cn 8 0 y 0 (5 + s) 5 = nI m' := (g.at (r_sh.n hs (by decide) (by decide))).trans em'
    unfold x_rsT k_rsT
    rw [ey, em', ← x_bc8 m' hm']
    by_cases q : x_bc (nI m') = 0
    · rw [if_pos q, if_pos q]; exact ⟨rfl, g.fin hs⟩
    · rw [if_neg q, if_neg q]; exact ⟨rfl, g⟩
