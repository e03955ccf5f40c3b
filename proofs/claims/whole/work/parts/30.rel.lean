-- ===== 30.rel: class state z and reference state y agree
theorem x_up_ne {z : x_S} {r j a b : Nat} {v : Int32} (h : ¬ (a = r ∧ b = j)) : x_up z r j v a b = z a b := by rw [x_up_at, if_neg h]
/-- the places that both have -/
def r_sh (r c : Nat) : Prop := (r = 0 ∧ c ≤ 1) ∨ (1 ≤ r ∧ r ≤ 4) ∨ ((r = 5 ∨ r = 6) ∧ 2 ≤ c ∧ c ≤ 5) ∨ (7 ≤ r ∧ r ≤ 10)
def r_neg (a b : Int32) : Prop := (a = 1 ∧ b = 0) ∨ (a = 0 ∧ b = 1)
def r_A (z y : x_S) : Prop :=
  (∀ r c, r_sh r c → y r c = z r c) ∧ y 0 6 = x_findP z ∧ (y 0 7 = if z 0 2 = 0 then 2 else z 0 3) ∧
  (∀ k, k < 2 → r_neg (z (5 + k) 0) (y (5 + k) 0)) ∧ (∀ k, k < 2 → r_neg (z (5 + k) 6) (y (5 + k) 6)) ∧
  (∀ k, k < 2 → ∀ b, b < 32 → y (11 + k) b = if bt (z (5 + k) 7) b then 1 else 0)
theorem r_A.at {z y : x_S} (h : r_A z y) {r c : Nat} (hs : r_sh r c) : y r c = z r c := h.1 r c hs
theorem r_A.up {z y : x_S} (h : r_A z y) {r c : Nat} {v w : Int32} (hs : r_sh r c) (e : w = v) : r_A (x_up z r c v) (x_up y r c w) := by
  subst e
  obtain ⟨h1, h2, h3, h4, h5, h6⟩ := h
  have hs' := hs
  unfold r_sh at hs'
  refine ⟨fun a b hab => ?_, ?_, ?_, fun k hk => ?_, fun k hk => ?_, fun k hk b hb => ?_⟩
  · rw [x_up_at, x_up_at, h1 a b hab]
  · unfold x_findP
    rw [x_up_ne (by omega), x_up_ne (by omega), x_up_ne (by omega)]
    exact h2
  · rw [x_up_ne (by omega), x_up_ne (by omega), x_up_ne (by omega)]
    exact h3
  · rw [x_up_ne (by omega), x_up_ne (by omega)]
    exact h4 k hk
  · rw [x_up_ne (by omega), x_up_ne (by omega)]
    exact h5 k hk
  · rw [x_up_ne (by omega), x_up_ne (by omega)]
    exact h6 k hk b hb
theorem r_A.sync0 {z y : x_S} (h : r_A z y) : r_A (x_up z 0 2 0) (x_up y 0 7 2) := by
  obtain ⟨h1, h2, h3, h4, h5, h6⟩ := h
  refine ⟨fun a b hab => ?_, ?_, ?_, fun k hk => ?_, fun k hk => ?_, fun k hk b hb => ?_⟩
  · unfold r_sh at hab
    rw [x_up_ne (by omega), x_up_ne (by omega)]
    exact h1 a b hab
  · unfold x_findP
    rw [x_up_ne (by omega), x_up_ne (by omega), x_up_ne (by omega)]
    exact h2
  · rw [x_up_eq, x_up_eq, if_pos rfl]
  · rw [x_up_ne (by omega), x_up_ne (by omega)]
    exact h4 k hk
  · rw [x_up_ne (by omega), x_up_ne (by omega)]
    exact h5 k hk
  · rw [x_up_ne (by omega), x_up_ne (by omega)]
    exact h6 k hk b hb
theorem r_A.sync1 {z y : x_S} {v : Int32} (h : r_A z y) (hv : v = z 0 3) : r_A (x_up z 0 2 1) (x_up y 0 7 v) := by
  obtain ⟨h1, h2, h3, h4, h5, h6⟩ := h
  refine ⟨fun a b hab => ?_, ?_, ?_, fun k hk => ?_, fun k hk => ?_, fun k hk b hb => ?_⟩
  · unfold r_sh at hab
    rw [x_up_ne (by omega), x_up_ne (by omega)]
    exact h1 a b hab
  · unfold x_findP
    rw [x_up_ne (by omega), x_up_ne (by omega), x_up_ne (by omega)]
    exact h2
  · rw [x_up_eq, x_up_eq, if_neg (by decide), x_up_ne (by omega)]
    exact hv
  · rw [x_up_ne (by omega), x_up_ne (by omega)]
    exact h4 k hk
  · rw [x_up_ne (by omega), x_up_ne (by omega)]
    exact h5 k hk
  · rw [x_up_ne (by omega), x_up_ne (by omega)]
    exact h6 k hk b hb
/-- the source's number changes while no syncing goes on -/
theorem r_A.src {z y : x_S} {v : Int32} (h : r_A z y) (h0 : z 0 2 = 0) : r_A (x_up z 0 3 v) y := by
  obtain ⟨h1, h2, h3, h4, h5, h6⟩ := h
  refine ⟨fun a b hab => ?_, ?_, ?_, fun k hk => ?_, fun k hk => ?_, fun k hk b hb => ?_⟩
  · unfold r_sh at hab
    rw [x_up_ne (by omega)]
    exact h1 a b hab
  · unfold x_findP
    rw [x_up_ne (by omega), x_up_ne (by omega)]
    exact h2
  · rw [x_up_ne (by omega), if_pos h0, h3, if_pos h0]
  · rw [x_up_ne (by omega)]
    exact h4 k hk
  · rw [x_up_ne (by omega)]
    exact h5 k hk
  · rw [x_up_ne (by omega)]
    exact h6 k hk b hb
theorem r_A.disc {z y : x_S} (h : r_A z y) : r_A (x_disc z) (k_disc y) := (h.up (r := 0) (c := 1) (Or.inl ⟨rfl, by decide⟩) rfl).sync0
/-- the primary flag: cleared, set -/
theorem r_A.prim0 {z y : x_S} {k : Nat} (hk : k < 2) (h : r_A z y) (h0 : z (5 + (1 - k)) 1 = 0) : r_A (x_up z (5 + k) 1 0) (x_up y 0 6 2) := by
  obtain ⟨h1, h2, h3, h4, h5, h6⟩ := h
  refine ⟨fun a b hab => ?_, ?_, ?_, fun j hj => ?_, fun j hj => ?_, fun j hj b hb => ?_⟩
  · unfold r_sh at hab
    rw [x_up_ne (by omega), x_up_ne (by omega)]
    exact h1 a b hab
  · rw [x_up_eq]
    unfold x_findP
    match k, hk with
    | 0, _ =>
      have h0 : z 6 1 = 0 := h0
      rw [show x_up z (5 + 0) 1 0 5 1 = 0 from x_up_eq z 5 1 0, x_up_ne (by omega), if_pos rfl, if_pos h0]
    | 1, _ =>
      have h0 : z 5 1 = 0 := h0
      rw [show x_up z (5 + 1) 1 0 6 1 = 0 from x_up_eq z 6 1 0, x_up_ne (by omega), if_pos h0, if_pos rfl]
  · rw [x_up_ne (by omega), x_up_ne (by omega), x_up_ne (by omega)]
    exact h3
  · rw [x_up_ne (by omega), x_up_ne (by omega)]
    exact h4 j hj
  · rw [x_up_ne (by omega), x_up_ne (by omega)]
    exact h5 j hj
  · rw [x_up_ne (by omega), x_up_ne (by omega)]
    exact h6 j hj b hb
theorem r_A.prim1 {z y : x_S} {k : Nat} (hk : k < 2) (h : r_A z y) (h0 : z (5 + (1 - k)) 1 = 0) : r_A (x_up z (5 + k) 1 1) (x_up y 0 6 (nI k)) := by
  obtain ⟨h1, h2, h3, h4, h5, h6⟩ := h
  refine ⟨fun a b hab => ?_, ?_, ?_, fun j hj => ?_, fun j hj => ?_, fun j hj b hb => ?_⟩
  · unfold r_sh at hab
    rw [x_up_ne (by omega), x_up_ne (by omega)]
    exact h1 a b hab
  · rw [x_up_eq]
    unfold x_findP
    match k, hk with
    | 0, _ =>
      rw [show x_up z (5 + 0) 1 1 5 1 = 1 from x_up_eq z 5 1 1, if_neg (by decide)]
      rfl
    | 1, _ =>
      have h0 : z 5 1 = 0 := h0
      rw [show x_up z (5 + 1) 1 1 6 1 = 1 from x_up_eq z 6 1 1, x_up_ne (by omega), if_pos h0, if_neg (by decide)]
      rfl
  · rw [x_up_ne (by omega), x_up_ne (by omega), x_up_ne (by omega)]
    exact h3
  · rw [x_up_ne (by omega), x_up_ne (by omega)]
    exact h4 j hj
  · rw [x_up_ne (by omega), x_up_ne (by omega)]
    exact h5 j hj
  · rw [x_up_ne (by omega), x_up_ne (by omega)]
    exact h6 j hj b hb
/-- up and down; the witness line -/
theorem r_A.updn {z y : x_S} {k : Nat} {v w : Int32} (hk : k < 2) (h : r_A z y) (e : r_neg v w) : r_A (x_up z (5 + k) 0 v) (x_up y (5 + k) 0 w) := by
  obtain ⟨h1, h2, h3, h4, h5, h6⟩ := h
  refine ⟨fun a b hab => ?_, ?_, ?_, fun j hj => ?_, fun j hj => ?_, fun j hj b hb => ?_⟩
  · unfold r_sh at hab
    rw [x_up_ne (by omega), x_up_ne (by omega)]
    exact h1 a b hab
  · unfold x_findP
    rw [x_up_ne (by omega), x_up_ne (by omega), x_up_ne (by omega)]
    exact h2
  · rw [x_up_ne (by omega), x_up_ne (by omega), x_up_ne (by omega)]
    exact h3
  · rw [x_up_at, x_up_at]
    by_cases q : 5 + j = 5 + k ∧ 0 = 0
    · rw [if_pos q, if_pos q]; exact e
    · rw [if_neg q, if_neg q]; exact h4 j hj
  · rw [x_up_ne (by omega), x_up_ne (by omega)]
    exact h5 j hj
  · rw [x_up_ne (by omega), x_up_ne (by omega)]
    exact h6 j hj b hb
theorem r_A.wl {z y : x_S} {k : Nat} {v w : Int32} (hk : k < 2) (h : r_A z y) (e : r_neg v w) : r_A (x_up z (5 + k) 6 v) (x_up y (5 + k) 6 w) := by
  obtain ⟨h1, h2, h3, h4, h5, h6⟩ := h
  refine ⟨fun a b hab => ?_, ?_, ?_, fun j hj => ?_, fun j hj => ?_, fun j hj b hb => ?_⟩
  · unfold r_sh at hab
    rw [x_up_ne (by omega), x_up_ne (by omega)]
    exact h1 a b hab
  · unfold x_findP
    rw [x_up_ne (by omega), x_up_ne (by omega), x_up_ne (by omega)]
    exact h2
  · rw [x_up_ne (by omega), x_up_ne (by omega), x_up_ne (by omega)]
    exact h3
  · rw [x_up_ne (by omega), x_up_ne (by omega)]
    exact h4 j hj
  · rw [x_up_at, x_up_at]
    by_cases q : 5 + j = 5 + k ∧ 6 = 6
    · rw [if_pos q, if_pos q]; exact e
    · rw [if_neg q, if_neg q]; exact h5 j hj
  · rw [x_up_ne (by omega), x_up_ne (by omega)]
    exact h6 j hj b hb
theorem r_sh.n {k c : Nat} (hk : k < 2) (h1 : 2 ≤ c) (h2 : c ≤ 5) : r_sh (5 + k) c := Or.inr (Or.inr (Or.inl ⟨by omega, h1, h2⟩))
theorem r_sh.lo {r c : Nat} (h1 : 1 ≤ r) (h2 : r ≤ 4) : r_sh r c := Or.inr (Or.inl ⟨h1, h2⟩)
theorem r_sh.hi {r c : Nat} (h1 : 7 ≤ r) (h2 : r ≤ 10) : r_sh r c := Or.inr (Or.inr (Or.inr ⟨h1, h2⟩))
theorem r_A.goAl {z y : x_S} {k : Nat} (hk : k < 2) (h : r_A z y) : r_A (x_goAl z k) (x_goAl y k) := by
  unfold x_goAl
  have g1 := h.up (r := 1) (c := 1) (v := z 1 1 + 1) (w := y 1 1 + 1) (r_sh.lo (by decide) (by decide)) (by rw [h.at (r_sh.lo (by decide) (by decide))])
  have g2 := g1.up (r := 5 + k) (c := 3) (r_sh.n hk (by decide) (by decide)) (g1.at (r := 5 + k) (c := 2) (r_sh.n hk (by decide) (by decide)))
  have g3 := g2.up (r := 5 + k) (c := 2) (r_sh.n hk (by decide) (by decide)) (g2.at (r := 1) (c := 1) (r_sh.lo (by decide) (by decide)))
  exact g3.up (r := 5 + k) (c := 4) (r_sh.n hk (by decide) (by decide)) rfl
