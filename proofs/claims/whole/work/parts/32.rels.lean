-- ===== 32.rels: steps, commits, crashes
theorem r_A.step {z y : x_S} {k n t : Nat} (hk : k < 2) (hn : n ≤ 3) (ht : t < 3 * n + 7) (hc : ∀ i, i < n → ∃ b, b < 24 ∧ z 3 i = nI b) (h : r_A z y) : r_A (x_step z k n t) (k_step y k n t) := by
  have e3 : ∀ i, y 3 i = z 3 i := fun i => h.at (r_sh.lo (by decide) (by decide))
  have e4 : ∀ i, y 4 i = z 4 i := fun i => h.at (r_sh.lo (by decide) (by decide))
  unfold x_step k_step
  by_cases q0 : t = 0
  · rw [if_pos q0, if_pos q0]; exact h.fl hk
  rw [if_neg q0, if_neg q0]
  by_cases q2 : t = 2
  · rw [if_pos q2, if_pos q2]; exact h.fl hk
  rw [if_neg q2, if_neg q2]
  by_cases q3 : t = 3 + 2 * n
  · rw [if_pos q3, if_pos q3]; exact h.fl hk
  rw [if_neg q3, if_neg q3]
  by_cases q4 : t = 3 + 2 * n + 2
  · rw [if_pos q4, if_pos q4]; exact h.fl hk
  rw [if_neg q4, if_neg q4]
  by_cases q1 : t = 1
  · rw [if_pos q1, if_pos q1]; exact h.wr hk (by decide) rfl
  rw [if_neg q1, if_neg q1]
  by_cases q5 : t = 3 + 2 * n + 1
  · rw [if_pos (show 3 + 2 * n ≤ t by omega), if_pos q5, if_pos q5]; exact h.wr hk (by decide) rfl
  rw [if_neg q5]
  by_cases q6 : 3 + 2 * n ≤ t
  · rw [if_pos q6, if_pos q6, if_neg q5]
    by_cases q7 : 3 + 2 * n + 3 + n ≤ t
    · rw [if_pos q7, if_pos q7]; exact h
    · rw [if_neg q7, if_neg q7, show t - (3 + 2 * n) - 3 = t - (3 + 2 * n + 3) by omega, e3, e4]
      obtain ⟨b, hb, eb⟩ := hc (t - (3 + 2 * n + 3)) (by omega)
      rw [eb, nI_clamp (by omega)]
      exact h.wr hk (by omega) rfl
  · rw [if_neg q6, if_neg q6, if_neg q5, e3, e4]
    by_cases q8 : (t - 3) % 2 = 0
    · rw [if_pos q8, if_pos q8, show 25 + 2 * ((t - 3) / 2) = 25 + (t - 3) by omega]; exact h.wr (b := 25 + (t - 3)) hk (by omega) rfl
    · rw [if_neg q8, if_neg q8, show 26 + 2 * ((t - 3) / 2) = 25 + (t - 3) by omega]; exact h.wr (b := 25 + (t - 3)) hk (by omega) rfl
theorem r_A.comL {k n : Nat} (hk : k < 2) (hn : n ≤ 3) : ∀ (m t : Nat) (z y : x_S), t + m ≤ 3 * n + 7 → (∀ i, i < n → ∃ b, b < 24 ∧ z 3 i = nI b) → r_A z y → r_A (x_comL k n m t z) (k_comL k n m t y) := by
  intro m
  induction m with
  | zero => intro t z y _ _ h; exact h
  | succ m ih =>
    intro t z y ht hc h
    exact ih (t + 1) _ _ (by omega) (by rw [x_step_low (by decide)]; exact hc) (h.step hk hn (by omega) hc)
-- a crash: the marks
def r_acc (f : Nat → Bool) : Nat → Nat → Int32 → Int32
  | 0, _, a => a
  | n + 1, i, a => r_acc f n (i + 1) (if f i then a ||| k_ext i else a)
theorem r_acc_app (f : Nat → Bool) : ∀ (n m i : Nat) (a : Int32), r_acc f (n + m) i a = r_acc f m (i + n) (r_acc f n i a) := by
  intro n
  induction n with
  | zero => intro m i a; rw [Nat.zero_add]; rfl
  | succ n ih => intro m i a; rw [show n + 1 + m = (n + m) + 1 by omega, r_acc, ih m (i + 1), r_acc, show i + 1 + n = i + (n + 1) by omega]
theorem k_ext_e : ∀ b, b < 32 → k_ext b = (1 : Int32) <<< (nI (b / 4) &&& 31) := by decide +kernel
theorem r_or3 (a e : Int32) : (a ||| e) ||| e = a ||| e := by rw [Int32.or_assoc, Int32.or_self]
theorem r_acc4 (x a : Int32) {e : Nat} (he : e < 8) : r_acc (bt x) 4 (4 * e) a = if x_sh x (nI e * 4) &&& 15 = 0 then a else a ||| ((1 : Int32) <<< (nI e &&& 31)) := by
  have k0 : k_ext (4 * e) = (1 : Int32) <<< (nI e &&& 31) := by rw [k_ext_e _ (by omega), show 4 * e / 4 = e by omega]
  have k1 : k_ext (4 * e + 1) = (1 : Int32) <<< (nI e &&& 31) := by rw [k_ext_e _ (by omega), show (4 * e + 1) / 4 = e by omega]
  have k2 : k_ext (4 * e + 1 + 1) = (1 : Int32) <<< (nI e &&& 31) := by rw [k_ext_e _ (by omega), show (4 * e + 1 + 1) / 4 = e by omega]
  have k3 : k_ext (4 * e + 1 + 1 + 1) = (1 : Int32) <<< (nI e &&& 31) := by rw [k_ext_e _ (by omega), show (4 * e + 1 + 1 + 1) / 4 = e by omega]
  simp only [r_acc, k0, k1, k2, k3]
  generalize (1 : Int32) <<< (nI e &&& 31) = E
  by_cases hn : x_sh x (nI e * 4) &&& 15 = 0
  · rw [if_pos hn]
    have hb := (x_nib x he).mp hn
    have b0 := hb 0 (by decide); have b1 := hb 1 (by decide); have b2 := hb 2 (by decide); have b3 := hb 3 (by decide)
    rw [Nat.add_zero] at b0
    rw [b0, show 4 * e + 1 + 1 = 4 * e + 2 from rfl, show 4 * e + 2 + 1 = 4 * e + 3 from rfl, b1, b2, b3]
    simp
  · rw [if_neg hn]
    cases h0 : bt x (4 * e) <;> cases h1 : bt x (4 * e + 1) <;> cases h2 : bt x (4 * e + 1 + 1) <;> cases h3 : bt x (4 * e + 1 + 1 + 1)
    · exfalso
      apply hn
      rw [x_nib x he]
      intro j hj
      match j, hj with
      | 0, _ => exact h0
      | 1, _ => exact h1
      | 2, _ => exact h2
      | 3, _ => exact h3
    all_goals simp [r_or3]
theorem r_acc_cex (x : Int32) : ∀ (n i : Nat) (a : Int32), i + n ≤ 8 → r_acc (bt x) (4 * n) (4 * i) a = x_cexL x n i a := by
  intro n
  induction n with
  | zero => intro i a _; rfl
  | succ n ih =>
    intro i a hi
    rw [show 4 * (n + 1) = 4 + 4 * n by omega, r_acc_app, r_acc4 x a (by omega), x_cexL, show 4 * i + 4 = 4 * (i + 1) by omega, ih (i + 1) _ (by omega)]
theorem x_cexL_or (x : Int32) : ∀ (n i : Nat) (a : Int32), x_cexL x n i a = a ||| x_cexL x n i 0 := by
  intro n
  induction n with
  | zero => intro i a; show a = a ||| 0; rw [Int32.or_zero]
  | succ n ih =>
    intro i a
    rw [x_cexL, x_cexL]
    by_cases q : x_sh x (nI i * 4) &&& 15 = 0
    · rw [if_pos q, if_pos q]; exact ih (i + 1) a
    · rw [if_neg q, if_neg q, Int32.zero_or, ih (i + 1) (a ||| _), ih (i + 1) ((1 : Int32) <<< _), Int32.or_assoc]
theorem r_acc_all (x a : Int32) : r_acc (bt x) 32 0 a = a ||| x_cexL x 8 0 0 := by
  rw [← x_cexL_or]; exact r_acc_cex x 8 0 a (by decide)
theorem r_acc_congr {f g : Nat → Bool} : ∀ (n i : Nat) (a : Int32), (∀ b, i ≤ b → f b = g b) → r_acc f n i a = r_acc g n i a := by
  intro n
  induction n with
  | zero => intro i a _; rfl
  | succ n ih => intro i a h; rw [r_acc, r_acc, h i (Nat.le_refl i), ih (i + 1) _ (fun b hb => h b (by omega))]
theorem k_cr2_at {z : x_S} {k i : Nat} (hk : k < 2) (a c : Nat) : k_cr2 z k i a c = if a = 5 + k ∧ c = 5 then z (5 + k) 5 ||| k_ext i else if a = 5 + (1 - k) ∧ c = 5 then (if z 0 1 = 0 then z (5 + (1 - k)) 5 else z (5 + (1 - k)) 5 ||| k_ext i) else z a c := by
  unfold k_cr2
  rw [x_up_ne (show ¬ (0 = 5 + k ∧ 1 = 5) by omega), x_up_ne (show ¬ (5 + (1 - k) = 5 + k ∧ 5 = 5) by omega)]
  by_cases q : z 0 1 = 0
  · rw [if_pos q, if_pos q, x_up_at]
    by_cases q1 : a = 5 + k ∧ c = 5
    · rw [if_pos q1, if_pos q1]
    · rw [if_neg q1, if_neg q1]
      by_cases q2 : a = 5 + (1 - k) ∧ c = 5
      · rw [if_pos q2, q2.1, q2.2]
      · rw [if_neg q2]
  · rw [if_neg q, if_neg q, x_up_at, x_up_at]
    by_cases q1 : a = 5 + k ∧ c = 5
    · rw [if_pos q1, if_pos q1, if_neg (show ¬ (a = 5 + (1 - k) ∧ c = 5) by omega)]
    · rw [if_neg q1, if_neg q1]
theorem k_crB_at {z : x_S} {k i : Nat} {keep : Int32} (hk : k < 2) (hi : i < 32) (a c : Nat) : k_crB z k keep i a c = if z (11 + k) i = 0 then z a c else if a = 11 + k ∧ c = i then 0 else if a = 7 + k ∧ c = i ∧ bt keep i = true then z (9 + k) i else k_cr2 z k i a c := by
  unfold k_crB
  by_cases q : z (11 + k) i = 0
  · rw [if_pos q, if_pos q]
  · rw [if_neg q, if_neg q, x_up_at]
    by_cases q1 : a = 11 + k ∧ c = i
    · rw [if_pos q1, if_pos q1]
    · rw [if_neg q1, if_neg q1]
      by_cases q2 : x_sh keep (nI i) &&& 1 = 1
      · have hb := (x_bit keep hi).mp q2
        rw [if_pos q2, x_up_at]
        by_cases q3 : a = 7 + k ∧ c = i
        · rw [if_pos q3, if_pos ⟨q3.1, q3.2, hb⟩, k_cr2_at hk, if_neg (show ¬ (9 + k = 5 + k ∧ i = 5) by omega), if_neg (show ¬ (9 + k = 5 + (1 - k) ∧ i = 5) by omega)]
        · rw [if_neg q3, if_neg (fun p => q3 ⟨p.1, p.2.1⟩)]
      · have hb : ¬ bt keep i = true := fun p => q2 ((x_bit keep hi).mpr p)
        rw [if_neg q2, if_neg (fun p => hb p.2.2)]
def r_has (z : x_S) (k : Nat) : Nat → Bool := fun b => decide (¬ z (11 + k) b = 0)
theorem k_crL_at {k : Nat} {keep : Int32} (hk : k < 2) : ∀ (n i : Nat) (z : x_S), i + n ≤ 32 →
    (∀ c, k_crL k keep n i z (11 + k) c = if i ≤ c ∧ c < i + n then 0 else z (11 + k) c) ∧
    (∀ c, k_crL k keep n i z (7 + k) c = if (i ≤ c ∧ c < i + n) ∧ ¬ z (11 + k) c = 0 ∧ bt keep c = true then z (9 + k) c else z (7 + k) c) ∧
    k_crL k keep n i z (5 + k) 5 = r_acc (r_has z k) n i (z (5 + k) 5) ∧
    (k_crL k keep n i z (5 + (1 - k)) 5 = if z 0 1 = 0 then z (5 + (1 - k)) 5 else r_acc (r_has z k) n i (z (5 + (1 - k)) 5)) ∧
    (∀ a c, a ≠ 11 + k → a ≠ 7 + k → ¬ (a = 5 + k ∧ c = 5) → ¬ (a = 5 + (1 - k) ∧ c = 5) → k_crL k keep n i z a c = z a c) := by
  intro n
  induction n with
  | zero =>
    intro i z _
    refine ⟨fun c => ?_, fun c => ?_, rfl, ?_, fun _ _ _ _ _ _ => rfl⟩
    · rw [if_neg (show ¬ (i ≤ c ∧ c < i + 0) by omega)]; rfl
    · rw [if_neg (show ¬ ((i ≤ c ∧ c < i + 0) ∧ _) from fun p => by omega)]; rfl
    · split <;> rfl
  | succ n ih =>
    intro i z hi
    have hB := fun a c => k_crB_at (z := z) (keep := keep) hk (show i < 32 by omega) a c
    obtain ⟨h1, h2, h3, h4, h5⟩ := ih (i + 1) (k_crB z k keep i) (by omega)
    have b11 : ∀ c, k_crB z k keep i (11 + k) c = if c = i then 0 else z (11 + k) c := by
      intro c
      rw [hB]
      by_cases q : z (11 + k) i = 0
      · rw [if_pos q]
        by_cases p : c = i
        · rw [if_pos p, p, q]
        · rw [if_neg p]
      · rw [if_neg q]
        by_cases p : c = i
        · rw [if_pos ⟨rfl, p⟩, if_pos p]
        · rw [if_neg (fun r => p r.2), if_neg p, if_neg (show ¬ (11 + k = 7 + k ∧ c = i ∧ bt keep i = true) from fun r => by omega), k_cr2_at hk, if_neg (show ¬ (11 + k = 5 + k ∧ c = 5) by omega), if_neg (show ¬ (11 + k = 5 + (1 - k) ∧ c = 5) by omega)]
    have b9 : ∀ c, k_crB z k keep i (9 + k) c = z (9 + k) c := by
      intro c
      rw [hB]
      by_cases q : z (11 + k) i = 0
      · rw [if_pos q]
      · rw [if_neg q, if_neg (show ¬ (9 + k = 11 + k ∧ c = i) by omega), if_neg (show ¬ (9 + k = 7 + k ∧ c = i ∧ bt keep i = true) from fun r => by omega), k_cr2_at hk, if_neg (show ¬ (9 + k = 5 + k ∧ c = 5) by omega), if_neg (show ¬ (9 + k = 5 + (1 - k) ∧ c = 5) by omega)]
    have b0 : k_crB z k keep i 0 1 = z 0 1 := by
      rw [hB]
      by_cases q : z (11 + k) i = 0
      · rw [if_pos q]
      · rw [if_neg q, if_neg (show ¬ (0 = 11 + k ∧ 1 = i) by omega), if_neg (show ¬ (0 = 7 + k ∧ 1 = i ∧ bt keep i = true) from fun r => by omega), k_cr2_at hk, if_neg (show ¬ (0 = 5 + k ∧ 1 = 5) by omega), if_neg (show ¬ (0 = 5 + (1 - k) ∧ 1 = 5) by omega)]
    have hf : ∀ b, i + 1 ≤ b → r_has (k_crB z k keep i) k b = r_has z k b := by
      intro b hb
      unfold r_has
      rw [b11, if_neg (show ¬ b = i by omega)]
    have hfi : r_has z k i = decide (¬ z (11 + k) i = 0) := rfl
    refine ⟨fun c => ?_, fun c => ?_, ?_, ?_, fun a c g1 g2 g3 g4 => ?_⟩
    · rw [k_crL, h1 c, b11 c]
      by_cases p : c = i
      · rw [if_neg (show ¬ (i + 1 ≤ c ∧ c < i + 1 + n) by omega), if_pos p, if_pos (show i ≤ c ∧ c < i + (n + 1) by omega)]
      · rw [if_neg p]
        by_cases r : i + 1 ≤ c ∧ c < i + 1 + n
        · rw [if_pos r, if_pos (show i ≤ c ∧ c < i + (n + 1) by omega)]
        · rw [if_neg r, if_neg (show ¬ (i ≤ c ∧ c < i + (n + 1)) by omega)]
    · rw [k_crL, h2 c, b11 c, b9 c]
      by_cases p : c = i
      · subst p
        rw [if_neg (show ¬ ((c + 1 ≤ c ∧ c < c + 1 + n) ∧ _) from fun r => by omega), hB]
        by_cases q : z (11 + k) c = 0
        · rw [if_pos q, if_neg (fun r => r.2.1 q)]
        · rw [if_neg q, if_neg (show ¬ (7 + k = 11 + k ∧ c = c) by omega)]
          by_cases r : bt keep c = true
          · rw [if_pos ⟨rfl, rfl, r⟩, if_pos ⟨by omega, q, r⟩]
          · rw [if_neg (fun s => r s.2.2), if_neg (fun s => r s.2.2), k_cr2_at hk, if_neg (show ¬ (7 + k = 5 + k ∧ c = 5) by omega), if_neg (show ¬ (7 + k = 5 + (1 - k) ∧ c = 5) by omega)]
      · rw [if_neg p]
        have b7 : k_crB z k keep i (7 + k) c = z (7 + k) c := by
          rw [hB]
          by_cases q : z (11 + k) i = 0
          · rw [if_pos q]
          · rw [if_neg q, if_neg (fun r => p r.2), if_neg (fun r => p r.2.1), k_cr2_at hk, if_neg (show ¬ (7 + k = 5 + k ∧ c = 5) by omega), if_neg (show ¬ (7 + k = 5 + (1 - k) ∧ c = 5) by omega)]
        rw [b7]
        by_cases r : (i + 1 ≤ c ∧ c < i + 1 + n) ∧ ¬ z (11 + k) c = 0 ∧ bt keep c = true
        · rw [if_pos r, if_pos ⟨by omega, r.2⟩]
        · rw [if_neg r, if_neg (fun s => r ⟨by omega, s.2⟩)]
    · rw [k_crL, h3, r_acc_congr n (i + 1) _ hf, r_acc, hfi, hB]
      by_cases q : z (11 + k) i = 0
      · rw [if_pos q]; simp [q]
      · rw [if_neg q, if_neg (show ¬ (5 + k = 11 + k ∧ 5 = i) by omega), if_neg (show ¬ (5 + k = 7 + k ∧ 5 = i ∧ bt keep i = true) from fun r => by omega), k_cr2_at hk, if_pos (show 5 + k = 5 + k ∧ 5 = 5 from ⟨rfl, rfl⟩)]
        simp [q]
    · rw [k_crL, h4, b0]
      by_cases q0 : z 0 1 = 0
      · rw [if_pos q0, if_pos q0, hB]
        by_cases q : z (11 + k) i = 0
        · rw [if_pos q]
        · rw [if_neg q, if_neg (show ¬ (5 + (1 - k) = 11 + k ∧ 5 = i) by omega), if_neg (show ¬ (5 + (1 - k) = 7 + k ∧ 5 = i ∧ bt keep i = true) from fun r => by omega), k_cr2_at hk, if_neg (show ¬ (5 + (1 - k) = 5 + k ∧ 5 = 5) by omega), if_pos (show 5 + (1 - k) = 5 + (1 - k) ∧ 5 = 5 from ⟨rfl, rfl⟩), if_pos q0]
      · rw [if_neg q0, if_neg q0, r_acc_congr n (i + 1) _ hf, r_acc, hfi, hB]
        by_cases q : z (11 + k) i = 0
        · rw [if_pos q]; simp [q]
        · rw [if_neg q, if_neg (show ¬ (5 + (1 - k) = 11 + k ∧ 5 = i) by omega), if_neg (show ¬ (5 + (1 - k) = 7 + k ∧ 5 = i ∧ bt keep i = true) from fun r => by omega), k_cr2_at hk, if_neg (show ¬ (5 + (1 - k) = 5 + k ∧ 5 = 5) by omega), if_pos (show 5 + (1 - k) = 5 + (1 - k) ∧ 5 = 5 from ⟨rfl, rfl⟩), if_neg q0]
          simp [q]
    · rw [k_crL, h5 a c g1 g2 g3 g4, hB]
      by_cases q : z (11 + k) i = 0
      · rw [if_pos q]
      · rw [if_neg q, if_neg (fun r => g1 r.1), if_neg (fun r => g2 r.1), k_cr2_at hk, if_neg g3, if_neg g4]
