-- ===== 33.relc: crash, swap, the end of a sync
def r_one (z : x_S) : Prop := z 5 1 = 0 ∨ z 6 1 = 0
theorem r_one.other {z : x_S} (h : r_one z) {k : Nat} (hk : k < 2) (h1 : ¬ z (5 + k) 1 = 0) : z (5 + (1 - k)) 1 = 0 := by
  match k, hk with
  | 0, _ => exact h.resolve_left h1
  | 1, _ => exact h.resolve_right h1
theorem r_find {z : x_S} (h : r_one z) {k : Nat} (hk : k < 2) : x_findP z = nI k ↔ ¬ z (5 + k) 1 = 0 := by
  unfold x_findP
  match k, hk with
  | 0, _ =>
    show _ ↔ ¬ z 5 1 = 0
    by_cases q : z 5 1 = 0
    · rw [if_pos q]
      by_cases p : z 6 1 = 0
      · rw [if_pos p]; simp [q]; decide
      · rw [if_neg p]; simp [q]; decide
    · rw [if_neg q]; simp [q]; rfl
  | 1, _ =>
    show _ ↔ ¬ z 6 1 = 0
    by_cases q : z 5 1 = 0
    · rw [if_pos q]
      by_cases p : z 6 1 = 0
      · rw [if_pos p]; simp [p]; decide
      · rw [if_neg p]; simp [p]; rfl
    · rw [if_neg q]
      have p : z 6 1 = 0 := h.resolve_left q
      simp [p]; decide
theorem r_A.sec {z y : x_S} {k : Nat} (hk : k < 2) (ho : r_one z) (h : r_A z y) : r_A (x_sec z k) (if y 0 6 = nI k then k_noP y else y) := by
  unfold x_sec k_noP
  rw [h.2.1]
  by_cases q : z (5 + k) 1 = 0
  · rw [if_pos q, if_neg (fun p => (r_find ho hk).mp p q)]; exact h
  · rw [if_neg q, if_pos ((r_find ho hk).mpr q)]
    exact (h.prim0 hk (ho.other hk q)).up (r_sh.lo (by decide) (by decide)) rfl
theorem r_hasE {z y : x_S} {k b : Nat} (hk : k < 2) (hb : b < 32) (h : r_A z y) : (¬ y (11 + k) b = 0) ↔ bt (z (5 + k) 7) b = true := by
  rw [h.2.2.2.2.2 k hk b hb]
  by_cases q : bt (z (5 + k) 7) b = true
  · rw [if_pos q]; simp [q]
  · rw [if_neg q]; simp [q]
theorem r_acc_lt {f g : Nat → Bool} : ∀ (n i : Nat) (a : Int32), (∀ b, i ≤ b → b < i + n → f b = g b) → r_acc f n i a = r_acc g n i a := by
  intro n
  induction n with
  | zero => intro i a _; rfl
  | succ n ih => intro i a h; rw [r_acc, r_acc, h i (Nat.le_refl i) (by omega), ih (i + 1) _ (fun b hb h2 => h b (by omega) (by omega))]
def x_br2 (z : x_S) (k : Nat) : x_S := if z 0 1 = 0 then x_up z (5 + k) 5 (z (5 + k) 5 ||| x_cext z k) else x_up (x_up z (5 + k) 5 (z (5 + k) 5 ||| x_cext z k)) (5 + (1 - k)) 5 (z (5 + (1 - k)) 5 ||| x_cext z k)
theorem x_bring_eq (z : x_S) {k : Nat} (hk : k < 2) (keep : Int32) : x_bring z k keep = x_disc (x_sec (x_up (x_settle (x_br2 z k) k keep) (5 + k) 0 0) k) := by
  unfold x_bring x_br2
  simp only [x_up_ne (show ¬ (0 = 5 + k ∧ 1 = 5) by omega), x_up_ne (show ¬ (5 + (1 - k) = 5 + k ∧ 5 = 5) by omega)]
theorem x_br2_at {z : x_S} {k : Nat} (hk : k < 2) (a c : Nat) : x_br2 z k a c = if a = 5 + k ∧ c = 5 then z (5 + k) 5 ||| x_cext z k else if a = 5 + (1 - k) ∧ c = 5 then (if z 0 1 = 0 then z (5 + (1 - k)) 5 else z (5 + (1 - k)) 5 ||| x_cext z k) else z a c := by
  unfold x_br2
  by_cases q : z 0 1 = 0
  · rw [if_pos q, if_pos q, x_up_at]
    by_cases q1 : a = 5 + k ∧ c = 5
    · rw [if_pos q1, if_pos q1]
    · rw [if_neg q1, if_neg q1]
      by_cases q2 : a = 5 + (1 - k) ∧ c = 5
      · rw [if_pos q2, q2.1, q2.2]
      · rw [if_neg q2]
  · rw [if_neg q, if_neg q, x_up_at, x_up_at]
    by_cases q1 : a = 5 + k ∧ c = 5
    · rw [if_pos q1, if_pos q1, if_neg (show ¬ (a = 5 + (1 - k) ∧ c = 5) by omega)]
    · rw [if_neg q1, if_neg q1]
theorem r_A.crL {z y : x_S} {k : Nat} {keep : Int32} (hk : k < 2) (h : r_A z y) : r_A (x_settle (x_br2 z k) k keep) (k_crL k keep 32 0 y) := by
  obtain ⟨c1, c2, c3, c4, c5⟩ := k_crL_at (keep := keep) hk 32 0 y (by decide)
  have hx : ∀ a, r_acc (r_has y k) 32 0 a = a ||| x_cext z k := by
    intro a
    unfold x_cext
    rw [← r_acc_all]
    refine r_acc_lt 32 0 a (fun b _ hb => ?_)
    unfold r_has
    have := r_hasE hk (show b < 32 by omega) h
    by_cases q : bt (z (5 + k) 7) b = true
    · rw [q]; exact decide_eq_true (this.mpr q)
    · rw [Bool.eq_false_iff.mpr q]; exact decide_eq_false (fun p => q (this.mp p))
  have hout : ∀ a c, a ≠ 7 + k → ¬ (a = 5 + k ∧ c = 7) → ¬ (a = 5 + k ∧ c = 5) → ¬ (a = 5 + (1 - k) ∧ c = 5) → x_settle (x_br2 z k) k keep a c = z a c := by
    intro a c g1 g2 g3 g4
    rw [x_settle_at, if_neg (fun p => g1 p.1), if_neg g2, x_br2_at hk, if_neg g3, if_neg g4]
  have hh := fun b (hb : b < 32) => r_hasE hk hb h
  obtain ⟨h1, h2, h3, h4, h5, h6⟩ := h
  refine ⟨fun a b hab => ?_, ?_, ?_, fun j hj => ?_, fun j hj => ?_, fun j hj b hb => ?_⟩
  · have hab' := hab
    unfold r_sh at hab'
    by_cases q7 : a = 7 + k
    · subst q7
      rw [c2, x_settle_at]
      have e9 : x_br2 z k (9 + k) b = z (9 + k) b := by rw [x_br2_at hk, if_neg (by omega), if_neg (by omega)]
      have e7 : x_br2 z k (7 + k) b = z (7 + k) b := by rw [x_br2_at hk, if_neg (by omega), if_neg (by omega)]
      have e5 : x_br2 z k (5 + k) 7 = z (5 + k) 7 := by rw [x_br2_at hk, if_neg (by omega), if_neg (by omega)]
      rw [e9, e7, e5, h1 _ _ (r_sh.hi (r := 9 + k) (by omega) (by omega)), h1 _ _ (r_sh.hi (r := 7 + k) (by omega) (by omega))]
      by_cases qb : b < 32
      · rw [if_pos (show 7 + k = 7 + k ∧ b < 32 from ⟨rfl, qb⟩)]
        by_cases r : bt (z (5 + k) 7) b = true ∧ bt keep b = true
        · rw [if_pos ⟨by omega, (hh b qb).mpr r.1, r.2⟩, if_pos (by rw [r.1, r.2]; rfl)]
        · rw [if_neg (fun s => r ⟨(hh b qb).mp s.2.1, s.2.2⟩), if_neg (by simpa using r)]
      · rw [if_neg (fun s => by omega), if_neg (show ¬ (7 + k = 7 + k ∧ b < 32) by omega), if_neg (show ¬ (7 + k = 5 + k ∧ b = 7) by omega)]
    · by_cases q5 : a = 5 + k ∧ b = 5
      · rw [q5.1, q5.2, c3, hx, x_settle_at, if_neg (by omega), if_neg (by omega), x_br2_at hk, if_pos ⟨rfl, rfl⟩, h1 _ _ (r_sh.n hk (by decide) (by decide))]
      · by_cases q6 : a = 5 + (1 - k) ∧ b = 5
        · rw [q6.1, q6.2, c4, hx, x_settle_at, if_neg (show ¬ (5 + (1 - k) = 7 + k ∧ 5 < 32) by omega), if_neg (show ¬ (5 + (1 - k) = 5 + k ∧ 5 = 7) by omega), x_br2_at hk, if_neg (show ¬ (5 + (1 - k) = 5 + k ∧ 5 = 5) by omega), if_pos (show 5 + (1 - k) = 5 + (1 - k) ∧ 5 = 5 from ⟨rfl, rfl⟩), h1 0 1 (Or.inl ⟨rfl, by decide⟩), h1 _ _ (r_sh.n (k := 1 - k) (by omega) (by decide) (by decide))]
        · rw [c5 a b (by omega) q7 q5 q6, hout a b q7 (by omega) q5 q6]
          exact h1 a b hab
  · unfold x_findP
    rw [c5 0 6 (by omega) (by omega) (by omega) (by omega), hout 5 1 (by omega) (by omega) (by omega) (by omega), hout 6 1 (by omega) (by omega) (by omega) (by omega)]
    exact h2
  · rw [c5 0 7 (by omega) (by omega) (by omega) (by omega), hout 0 2 (by omega) (by omega) (by omega) (by omega), hout 0 3 (by omega) (by omega) (by omega) (by omega)]
    exact h3
  · rw [c5 (5 + j) 0 (by omega) (by omega) (by omega) (by omega), hout (5 + j) 0 (by omega) (by omega) (by omega) (by omega)]
    exact h4 j hj
  · rw [c5 (5 + j) 6 (by omega) (by omega) (by omega) (by omega), hout (5 + j) 6 (by omega) (by omega) (by omega) (by omega)]
    exact h5 j hj
  · by_cases q : j = k
    · subst q
      have e0 : x_settle (x_br2 z j) j keep (5 + j) 7 = 0 := by rw [x_settle_at, if_neg (show ¬ (5 + j = 7 + j ∧ 7 < 32) by omega), if_pos (show 5 + j = 5 + j ∧ 7 = 7 from ⟨rfl, rfl⟩)]
      rw [c1, if_pos (show 0 ≤ b ∧ b < 0 + 32 by omega), e0, b_0]
      rfl
    · rw [c5 (11 + j) b (by omega) (by omega) (by omega) (by omega), hout (5 + j) 7 (by omega) (by omega) (by omega) (by omega)]
      exact h6 j hj b hb
theorem x_settle_br_1 {z : x_S} {k j : Nat} {keep : Int32} (hk : k < 2) (hj : j < 2) : x_up (x_settle (x_br2 z k) k keep) (5 + k) 0 0 (5 + j) 1 = z (5 + j) 1 := by
  rw [x_up_ne (by omega), x_settle_at, if_neg (by omega), if_neg (by omega), x_br2_at hk, if_neg (by omega), if_neg (by omega)]
theorem r_A.crash {z y : x_S} {k : Nat} {keep : Int32} (hk : k < 2) (ho : r_one z) (h : r_A z y) : r_A (x_bring z k keep) (k_crT (k_crL k keep 32 0 y) k) := by
  rw [x_bring_eq z hk]
  have g := (h.crL (keep := keep) hk).updn (k := k) (v := 0) (w := 1) hk (Or.inr ⟨rfl, rfl⟩)
  have e := fun j (hj : j < 2) => x_settle_br_1 (z := z) (keep := keep) hk hj
  have ho' : r_one (x_up (x_settle (x_br2 z k) k keep) (5 + k) 0 0) := by
    have e0 := e 0 (by decide); have e1 := e 1 (by decide)
    rw [show (5 + 0 : Nat) = 5 from rfl] at e0
    rw [show (5 + 1 : Nat) = 6 from rfl] at e1
    unfold r_one
    rw [e0, e1]; exact ho
  have gs := g.sec hk ho'
  unfold k_crT
  by_cases q : x_up (k_crL k keep 32 0 y) (5 + k) 0 1 0 6 = nI k
  · rw [if_pos q] at gs ⊢; exact gs.disc
  · rw [if_neg q] at gs ⊢; exact gs.disc
-- swap
theorem x_fillL_at {k : Nat} : ∀ (n i : Nat) (z : x_S) (a c : Nat), x_fillL k n i z a c = if a = 7 + k ∧ i ≤ c ∧ c < i + n then 0 else z a c := by
  intro n
  induction n with
  | zero => intro i z a c; rw [if_neg (by omega)]; rfl
  | succ n ih =>
    intro i z a c
    rw [x_fillL, ih (i + 1), x_up_at]
    by_cases q : a = 7 + k ∧ c = i
    · rw [if_pos q, if_pos (show a = 7 + k ∧ i ≤ c ∧ c < i + (n + 1) by omega)]
      split <;> rfl
    · rw [if_neg q]
      by_cases r : a = 7 + k ∧ i + 1 ≤ c ∧ c < i + 1 + n
      · rw [if_pos r, if_pos (show a = 7 + k ∧ i ≤ c ∧ c < i + (n + 1) by omega)]
      · rw [if_neg r, if_neg (show ¬ (a = 7 + k ∧ i ≤ c ∧ c < i + (n + 1)) by omega)]
theorem k_swL_at {k : Nat} : ∀ (n i : Nat) (z : x_S) (a c : Nat), k_swL k n i z a c = if (a = 7 + k ∨ a = 11 + k) ∧ i ≤ c ∧ c < i + n then 0 else z a c := by
  intro n
  induction n with
  | zero => intro i z a c; rw [if_neg (by omega)]; rfl
  | succ n ih =>
    intro i z a c
    rw [k_swL, ih (i + 1), x_up_at, x_up_at]
    by_cases r : (a = 7 + k ∨ a = 11 + k) ∧ i + 1 ≤ c ∧ c < i + 1 + n
    · rw [if_pos r, if_pos (show (a = 7 + k ∨ a = 11 + k) ∧ i ≤ c ∧ c < i + (n + 1) by omega)]
    · rw [if_neg r]
      by_cases q : a = 11 + k ∧ c = i
      · rw [if_pos q, if_pos (show (a = 7 + k ∨ a = 11 + k) ∧ i ≤ c ∧ c < i + (n + 1) by omega)]
      · rw [if_neg q]
        by_cases p : a = 7 + k ∧ c = i
        · rw [if_pos p, if_pos (show (a = 7 + k ∨ a = 11 + k) ∧ i ≤ c ∧ c < i + (n + 1) by omega)]
        · rw [if_neg p, if_neg (show ¬ ((a = 7 + k ∨ a = 11 + k) ∧ i ≤ c ∧ c < i + (n + 1)) by omega)]
theorem x_erase_at (z : x_S) (k a c : Nat) : x_erase z k a c = if a = 5 + k ∧ c = 7 then 0 else if a = 7 + k ∧ c < 32 then 0 else z a c := by
  unfold x_erase
  rw [x_up_at]
  by_cases q : a = 5 + k ∧ c = 7
  · rw [if_pos q, if_pos q]
  · rw [if_neg q, if_neg q, x_fillL_at]
    by_cases r : a = 7 + k ∧ c < 32
    · rw [if_pos r, if_pos (show a = 7 + k ∧ 0 ≤ c ∧ c < 0 + 32 by omega)]
    · rw [if_neg r, if_neg (show ¬ (a = 7 + k ∧ 0 ≤ c ∧ c < 0 + 32) by omega)]
theorem r_A.erase {z y : x_S} {k : Nat} (hk : k < 2) (h : r_A z y) : r_A (x_erase z k) (k_swL k 32 0 y) := by
  obtain ⟨h1, h2, h3, h4, h5, h6⟩ := h
  have ey : ∀ a c, a ≠ 7 + k → a ≠ 11 + k → k_swL k 32 0 y a c = y a c := fun a c g1 g2 => by rw [k_swL_at, if_neg (by omega)]
  have ez : ∀ a c, a ≠ 7 + k → ¬ (a = 5 + k ∧ c = 7) → x_erase z k a c = z a c := fun a c g1 g2 => by rw [x_erase_at, if_neg g2, if_neg (fun p => g1 p.1)]
  refine ⟨fun a b hab => ?_, ?_, ?_, fun j hj => ?_, fun j hj => ?_, fun j hj b hb => ?_⟩
  · have hab' := hab
    unfold r_sh at hab'
    by_cases q : a = 7 + k
    · subst q
      rw [k_swL_at, x_erase_at, if_neg (show ¬ (7 + k = 5 + k ∧ b = 7) by omega)]
      by_cases r : b < 32
      · rw [if_pos (by omega), if_pos ⟨rfl, r⟩]
      · rw [if_neg (by omega), if_neg (show ¬ (7 + k = 7 + k ∧ b < 32) by omega)]; exact h1 _ _ hab
    · rw [ey a b q (by omega), ez a b q (by omega)]; exact h1 a b hab
  · unfold x_findP
    rw [ey _ _ (by omega) (by omega), ez _ _ (by omega) (by omega), ez _ _ (by omega) (by omega)]; exact h2
  · rw [ey _ _ (by omega) (by omega), ez _ _ (by omega) (by omega), ez _ _ (by omega) (by omega)]; exact h3
  · rw [ey _ _ (by omega) (by omega), ez _ _ (by omega) (by omega)]; exact h4 j hj
  · rw [ey _ _ (by omega) (by omega), ez _ _ (by omega) (by omega)]; exact h5 j hj
  · by_cases q : j = k
    · subst q
      have e0 : x_erase z j (5 + j) 7 = 0 := by rw [x_erase_at, if_pos (show 5 + j = 5 + j ∧ 7 = 7 from ⟨rfl, rfl⟩)]
      rw [k_swL_at, if_pos (show (11 + j = 7 + j ∨ 11 + j = 11 + j) ∧ 0 ≤ b ∧ b < 0 + 32 by omega), e0, b_0]; rfl
    · rw [ey _ _ (by omega) (by omega), ez _ _ (by omega) (by omega)]; exact h6 j hj b hb
theorem r_A.renew {z y : x_S} {k : Nat} (hk : k < 2) (h : r_A z y) : r_A (x_renew z k) (k_swT (k_swL k 32 0 y) k) := by
  unfold x_renew k_swT
  exact ((((h.erase hk).up (r_sh.n hk (by decide) (by decide)) rfl).up (r_sh.n hk (by decide) (by decide)) rfl).up (r_sh.n hk (by decide) (by decide)) rfl).up (r_sh.n hk (by decide) (by decide)) rfl
