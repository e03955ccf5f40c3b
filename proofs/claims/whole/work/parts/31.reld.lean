-- ===== 31.reld: the disks
theorem x_isC_iff {z : x_S} {k b : Nat} (hb : b < 32) : (x_isC z k b = 0) ↔ bt (z (5 + k) 7) b = false := by
  unfold x_isC
  by_cases h : x_sh (z (5 + k) 7) (nI b) &&& 1 = 1
  · rw [if_pos h, (x_bit _ hb).mp h]; decide
  · rw [if_neg h]
    have : ¬ bt (z (5 + k) 7) b = true := fun q => h ((x_bit _ hb).mpr q)
    simp [this]
theorem x_held_at {z : x_S} {k b : Nat} (hb : b < 32) : x_held z k b = if bt (z (5 + k) 7) b then z (9 + k) b else z (7 + k) b := by
  unfold x_held
  by_cases h : bt (z (5 + k) 7) b = true
  · rw [if_neg (fun q => by rw [(x_isC_iff hb).mp q] at h; cases h), if_pos h]
  · have h' : bt (z (5 + k) 7) b = false := by simpa using h
    rw [if_pos ((x_isC_iff hb).mpr h'), if_neg h]
theorem r_A.held {z y : x_S} {k b : Nat} (hk : k < 2) (hb : b < 32) (h : r_A z y) : k_held y k b = x_held z k b := by
  rw [x_held_at hb]
  unfold k_held
  rw [h.2.2.2.2.2 k hk b hb, h.at (r := 7 + k) (c := b) (r_sh.hi (by omega) (by omega)), h.at (r := 9 + k) (c := b) (r_sh.hi (by omega) (by omega))]
  by_cases q : bt (z (5 + k) 7) b = true
  · rw [if_pos q, if_pos q, if_neg (by decide)]
  · rw [if_neg q, if_neg q, if_pos rfl]
/-- a bit set in the class's mask, a flag in the reference's row -/
theorem r_A.bit {z y : x_S} {k : Nat} {m : Int32} {g : Nat → Int32} (hk : k < 2) (h : r_A z y) (y' : x_S) (hy : ∀ r c, r ≠ 11 + k → y' r c = y r c) (hg : ∀ b, b < 32 → y' (11 + k) b = if bt m b then 1 else 0) : r_A (x_up z (5 + k) 7 m) y' := by
  obtain ⟨h1, h2, h3, h4, h5, h6⟩ := h
  refine ⟨fun a b hab => ?_, ?_, ?_, fun j hj => ?_, fun j hj => ?_, fun j hj b hb => ?_⟩
  · unfold r_sh at hab
    rw [hy _ _ (by omega), x_up_ne (by omega)]
    exact h1 a b hab
  · unfold x_findP
    rw [hy _ _ (by omega), x_up_ne (by omega), x_up_ne (by omega)]
    exact h2
  · rw [hy _ _ (by omega), x_up_ne (by omega), x_up_ne (by omega)]
    exact h3
  · rw [hy _ _ (by omega), x_up_ne (by omega)]
    exact h4 j hj
  · rw [hy _ _ (by omega), x_up_ne (by omega)]
    exact h5 j hj
  · by_cases q : j = k
    · subst q
      rw [x_up_eq]
      exact hg b hb
    · rw [hy _ _ (by omega), x_up_ne (by omega)]
      exact h6 j hj b hb
theorem r_A.put {z y : x_S} {k b : Nat} {v w : Int32} (hk : k < 2) (hb : b < 32) (h : r_A z y) (e : w = v) : r_A (x_put z k b v) (k_keep y k b w) := by
  subst e
  unfold x_put k_keep
  have g1 := h.up (r := 9 + k) (c := b) (v := w) (w := w) (r_sh.hi (by omega) (by omega)) rfl
  refine g1.bit (g := fun _ => 0) hk _ (fun r c hr => x_up_row hr ▸ rfl) (fun j hj => ?_)
  rw [x_up_at, b_set hb hj]
  by_cases q : j = b
  · subst q; simp
  · rw [if_neg (by omega), g1.2.2.2.2.2 k hk j hj]
    simp [q]
theorem r_A.wr {z y : x_S} {k b : Nat} {v w : Int32} (hk : k < 2) (hb : b < 32) (h : r_A z y) (e : w = v) : r_A (x_wr z k b v) (k_wr y k b w) := by
  have g := h.put hk hb e
  have ec : k_keep y k b w 0 1 = x_put z k b v 0 1 := g.at (Or.inl ⟨rfl, by decide⟩)
  have em : k_keep y k b w (5 + k) 5 = x_put z k b v (5 + k) 5 := g.at (r_sh.n hk (by decide) (by decide))
  unfold x_wr k_wr
  try dsimp only
  rw [ec]
  by_cases q : x_put z k b v 0 1 = 0
  · rw [if_pos q, if_pos q]
    exact g.up (r_sh.n hk (by decide) (by decide)) (by rw [em]; rfl)
  · rw [if_neg q, if_neg q]
    exact g.put (by omega) hb e
-- settling
theorem x_setL_at {k : Nat} {keep : Int32} : ∀ (n i : Nat) (z : x_S), i + n ≤ 32 → ∀ c, x_setL k keep n i z (7 + k) c = if i ≤ c ∧ c < i + n then (if bt (z (5 + k) 7) c && bt keep c then z (9 + k) c else z (7 + k) c) else z (7 + k) c := by
  intro n
  induction n with
  | zero => intro i z _ c; rw [if_neg (by omega)]; rfl
  | succ n ih =>
    intro i z hi c
    rw [x_setL, ih (i + 1) _ (by omega) c, x_setB_row (by omega), x_setB_row (by omega)]
    have hB : x_setB z k keep i (7 + k) c = if c = i then (if bt (z (5 + k) 7) c && bt keep c then z (9 + k) c else z (7 + k) c) else z (7 + k) c := by
      unfold x_setB
      by_cases hc : x_isC z k i = 0
      · rw [if_pos hc]
        have := (x_isC_iff (k := k) (z := z) (show i < 32 by omega)).mp hc
        by_cases q : c = i
        · subst q; rw [if_pos rfl, this]; rfl
        · rw [if_neg q]
      · rw [if_neg hc]
        have h1 : bt (z (5 + k) 7) i = true := by
          cases hq : bt (z (5 + k) 7) i with
          | true => rfl
          | false => exact absurd ((x_isC_iff (by omega)).mpr hq) hc
        by_cases hk2 : x_sh keep (nI i) &&& 1 = 1
        · rw [if_pos hk2, x_up_at]
          have h2 := (x_bit keep (show i < 32 by omega)).mp hk2
          by_cases q : c = i
          · subst q; rw [if_pos ⟨rfl, rfl⟩, if_pos rfl, h1, h2]; rfl
          · rw [if_neg (by omega), if_neg q]
        · rw [if_neg hk2]
          have h2 : bt keep i = false := by
            cases hq : bt keep i with
            | false => rfl
            | true => exact absurd ((x_bit keep (by omega)).mpr hq) hk2
          by_cases q : c = i
          · subst q; rw [if_pos rfl, h1, h2]; rfl
          · rw [if_neg q]
    rw [hB]
    by_cases q : c = i
    · subst q
      rw [if_neg (show ¬ (c + 1 ≤ c ∧ c < c + 1 + n) by omega), if_pos rfl, if_pos (show c ≤ c ∧ c < c + (n + 1) by omega)]
    · rw [if_neg q]
      by_cases p : i + 1 ≤ c ∧ c < i + 1 + n
      · rw [if_pos p, if_pos (show i ≤ c ∧ c < i + (n + 1) by omega)]
      · rw [if_neg p, if_neg (show ¬ (i ≤ c ∧ c < i + (n + 1)) by omega)]
theorem k_setL_row {k a : Nat} (h7 : a ≠ 7 + k) (h11 : a ≠ 11 + k) : ∀ (n i : Nat) (z : x_S), k_setL k n i z a = z a
  | 0, _, _ => rfl
  | n + 1, i, z => by rw [k_setL, k_setL_row h7 h11 n]; unfold k_setB; rw [x_up_row h11, x_up_row h7]
theorem k_setL_at {k : Nat} : ∀ (n i : Nat) (z : x_S), ∀ c, k_setL k n i z (7 + k) c = (if i ≤ c ∧ c < i + n then k_held z k c else z (7 + k) c) ∧ k_setL k n i z (11 + k) c = (if i ≤ c ∧ c < i + n then 0 else z (11 + k) c) := by
  intro n
  induction n with
  | zero => intro i z c; rw [if_neg (by omega), if_neg (by omega)]; exact ⟨rfl, rfl⟩
  | succ n ih =>
    intro i z c
    obtain ⟨h1, h2⟩ := ih (i + 1) (k_setB z k i) c
    rw [k_setL, h1, h2]
    have e7 : k_setB z k i (7 + k) c = if c = i then k_held z k i else z (7 + k) c := by
      unfold k_setB
      rw [x_up_row (by omega), x_up_at]
      by_cases q : c = i
      · rw [if_pos ⟨rfl, q⟩, if_pos q]
      · rw [if_neg (fun p => q p.2), if_neg q]
    have e9 : k_setB z k i (9 + k) c = z (9 + k) c := by
      unfold k_setB
      rw [x_up_row (by omega), x_up_row (by omega)]
    have e11 : k_setB z k i (11 + k) c = if c = i then 0 else z (11 + k) c := by
      unfold k_setB
      rw [x_up_at]
      by_cases q : c = i
      · rw [if_pos ⟨rfl, q⟩, if_pos q]
      · rw [if_neg (fun p => q p.2), if_neg q, x_up_row (by omega)]
    have eh : c ≠ i → k_held (k_setB z k i) k c = k_held z k c := by
      intro q
      unfold k_held
      rw [e11, e7, e9, if_neg q, if_neg q]
    by_cases q : c = i
    · subst q
      have n1 : ¬ (c + 1 ≤ c ∧ c < c + 1 + n) := by omega
      have p1 : c ≤ c ∧ c < c + (n + 1) := by omega
      rw [if_neg n1, if_neg n1, if_pos p1, if_pos p1, e7, e11, if_pos rfl, if_pos rfl]
      exact ⟨rfl, rfl⟩
    · rw [e7, e11, eh q, if_neg q, if_neg q]
      by_cases p : i + 1 ≤ c ∧ c < i + 1 + n
      · have p1 : i ≤ c ∧ c < i + (n + 1) := by omega
        rw [if_pos p, if_pos p, if_pos p1, if_pos p1]; exact ⟨rfl, rfl⟩
      · have p1 : ¬ (i ≤ c ∧ c < i + (n + 1)) := by omega
        rw [if_neg p, if_neg p, if_neg p1, if_neg p1]; exact ⟨rfl, rfl⟩
theorem k_settle_at (z : x_S) (k a c : Nat) : k_settle z k a c = if a = 7 + k ∧ c < 32 then k_held z k c else if a = 11 + k ∧ c < 32 then 0 else z a c := by
  unfold k_settle
  by_cases h7 : a = 7 + k
  · subst h7
    rw [(k_setL_at 32 0 z c).1]
    by_cases q : c < 32
    · rw [if_pos (show 0 ≤ c ∧ c < 0 + 32 by omega), if_pos (show 7 + k = 7 + k ∧ c < 32 from ⟨rfl, q⟩)]
    · rw [if_neg (show ¬ (0 ≤ c ∧ c < 0 + 32) by omega), if_neg (show ¬ (7 + k = 7 + k ∧ c < 32) by omega), if_neg (show ¬ (7 + k = 11 + k ∧ c < 32) by omega)]
  · by_cases h11 : a = 11 + k
    · subst h11
      rw [(k_setL_at 32 0 z c).2, if_neg (show ¬ (11 + k = 7 + k ∧ c < 32) by omega)]
      by_cases q : c < 32
      · rw [if_pos (show 0 ≤ c ∧ c < 0 + 32 by omega), if_pos (show 11 + k = 11 + k ∧ c < 32 from ⟨rfl, q⟩)]
      · rw [if_neg (show ¬ (0 ≤ c ∧ c < 0 + 32) by omega), if_neg (show ¬ (11 + k = 11 + k ∧ c < 32) by omega)]
    · rw [k_setL_row h7 h11, if_neg (fun q => h7 q.1), if_neg (fun q => h11 q.1)]
theorem x_settle_at (z : x_S) (k : Nat) (keep : Int32) (a c : Nat) : x_settle z k keep a c = if a = 7 + k ∧ c < 32 then (if bt (z (5 + k) 7) c && bt keep c then z (9 + k) c else z (7 + k) c) else if a = 5 + k ∧ c = 7 then 0 else z a c := by
  unfold x_settle
  rw [x_up_at]
  by_cases h5 : a = 5 + k ∧ c = 7
  · rw [if_pos h5, if_neg (show ¬ (a = 7 + k ∧ c < 32) by omega), if_pos h5]
  · rw [if_neg h5, if_neg h5]
    by_cases h7 : a = 7 + k
    · subst h7
      rw [x_setL_at 32 0 z (by omega) c]
      by_cases q : c < 32
      · rw [if_pos (show 0 ≤ c ∧ c < 0 + 32 by omega), if_pos (show 7 + k = 7 + k ∧ c < 32 from ⟨rfl, q⟩)]
      · rw [if_neg (show ¬ (0 ≤ c ∧ c < 0 + 32) by omega), if_neg (show ¬ (7 + k = 7 + k ∧ c < 32) by omega)]
    · rw [x_setL_row h7, if_neg (fun q => h7 q.1)]
theorem k_settle_out {z : x_S} {k a c : Nat} (h7 : a ≠ 7 + k) (h11 : a ≠ 11 + k) : k_settle z k a c = z a c := by
  rw [k_settle_at, if_neg (fun q => h7 q.1), if_neg (fun q => h11 q.1)]
theorem x_flush_out {z : x_S} {k a c : Nat} (h7 : a ≠ 7 + k) (h5 : a ≠ 5 + k ∨ c ≠ 7) : x_flush z k a c = z a c := by
  unfold x_flush
  rw [x_settle_at, if_neg (fun q => h7 q.1), if_neg (show ¬ (a = 5 + k ∧ c = 7) by omega)]
theorem x_flush_at (z : x_S) (k a c : Nat) : x_flush z k a c = if a = 7 + k ∧ c < 32 then x_held z k c else if a = 5 + k ∧ c = 7 then 0 else z a c := by
  unfold x_flush
  rw [x_settle_at]
  by_cases h : a = 7 + k ∧ c < 32
  · rw [if_pos h, if_pos h, x_held_at h.2, b_m1 c h.2, Bool.and_true]
  · rw [if_neg h, if_neg h]
theorem r_A.flush {z y : x_S} {k : Nat} (hk : k < 2) (h : r_A z y) : r_A (x_flush z k) (k_settle y k) := by
  have hh := fun c (hc : c < 32) => h.held hk hc
  obtain ⟨h1, h2, h3, h4, h5, h6⟩ := h
  refine ⟨fun a b hab => ?_, ?_, ?_, fun j hj => ?_, fun j hj => ?_, fun j hj b hb => ?_⟩
  · have hab' := hab
    unfold r_sh at hab'
    by_cases q : a = 7 + k ∧ b < 32
    · rw [k_settle_at, x_flush_at, if_pos q, if_pos q]; exact hh b q.2
    · rw [k_settle_at, x_flush_at, if_neg q, if_neg q, if_neg (show ¬ (a = 11 + k ∧ b < 32) by omega), if_neg (show ¬ (a = 5 + k ∧ b = 7) by omega)]
      exact h1 a b hab
  · unfold x_findP
    rw [k_settle_out (by omega) (by omega), x_flush_out (by omega) (Or.inr (by decide)), x_flush_out (by omega) (Or.inr (by decide))]
    exact h2
  · rw [k_settle_out (by omega) (by omega), x_flush_out (by omega) (Or.inr (by decide)), x_flush_out (by omega) (Or.inr (by decide))]
    exact h3
  · rw [k_settle_out (by omega) (by omega), x_flush_out (by omega) (Or.inr (by decide))]
    exact h4 j hj
  · rw [k_settle_out (by omega) (by omega), x_flush_out (by omega) (Or.inr (by decide))]
    exact h5 j hj
  · by_cases q : j = k
    · subst q
      rw [k_settle_at, x_flush_at, if_neg (show ¬ (11 + j = 7 + j ∧ b < 32) by omega), if_pos (show 11 + j = 11 + j ∧ b < 32 from ⟨rfl, hb⟩), if_neg (show ¬ (5 + j = 7 + j ∧ 7 < 32) by omega), if_pos (show 5 + j = 5 + j ∧ 7 = 7 from ⟨rfl, rfl⟩), b_0]
      rfl
    · rw [k_settle_out (by omega) (by omega), x_flush_out (by omega) (Or.inl (by omega))]
      exact h6 j hj b hb
theorem k_held_settle {z : x_S} {k j c : Nat} (hk : k < 2) (hj : j < 2) (hne : j ≠ k) : k_held (k_settle z k) j c = k_held z j c := by
  unfold k_held
  rw [k_settle_out (a := 11 + j) (by omega) (by omega), k_settle_out (a := 7 + j) (by omega) (by omega), k_settle_out (a := 9 + j) (by omega) (by omega)]
theorem k_settle_comm (z : x_S) {k : Nat} (hk : k < 2) : k_settle (k_settle z k) (1 - k) = k_settle (k_settle z (1 - k)) k := by
  funext a c
  by_cases q1 : a = 7 + k ∧ c < 32
  · rw [k_settle_out (by omega) (by omega), k_settle_at, if_pos q1, k_settle_at, if_pos q1, k_held_settle (by omega) hk (by omega)]
  · by_cases q2 : a = 7 + (1 - k) ∧ c < 32
    · rw [k_settle_at, if_pos q2, k_settle_out (k := k) (by omega) (by omega), k_settle_at, if_pos q2, k_held_settle hk (by omega) (by omega)]
    · rw [k_settle_at, if_neg q2, k_settle_at (k_settle z (1 - k)), if_neg q1, k_settle_at, if_neg q1, k_settle_at z (1 - k), if_neg q2]
      by_cases q3 : a = 11 + k ∧ c < 32
      · rw [if_pos q3, if_neg (show ¬ (a = 11 + (1 - k) ∧ c < 32) by omega), if_pos q3]
      · rw [if_neg q3, if_neg q3]
theorem r_A.fl {z y : x_S} {k : Nat} (hk : k < 2) (h : r_A z y) : r_A (x_fl z k) (k_fl y k) := by
  have ef : x_fl z k = if x_flush z k 0 1 = 0 then x_flush z k else x_flush (x_flush z k) (1 - k) := rfl
  rw [ef]
  unfold k_fl
  rw [x_flush_out (a := 0) (c := 1) (by omega) (Or.inr (by decide)), h.at (r := 0) (c := 1) (Or.inl ⟨rfl, by decide⟩)]
  by_cases q : z 0 1 = 0
  · rw [if_pos q, if_pos q]; exact h.flush hk
  · rw [if_neg q, if_neg q, ← k_settle_comm y hk]
    exact (h.flush hk).flush (by omega)
