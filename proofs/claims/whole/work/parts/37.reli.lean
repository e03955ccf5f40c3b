-- ===== 37.reli: what holds of the class's state after every call
def r_I (z : x_S) : Prop := r_one z ∧ (∀ k, k < 2 → ¬ z (5 + k) 1 = 0 → z (5 + k) 0 = 1) ∧ (∃ s, s < 2 ∧ z 0 3 = nI s) ∧ (∃ n, n ≤ 3 ∧ z 2 0 = nI n ∧ ∀ i, i < n → ∃ b, b < 24 ∧ z 3 i = nI b) ∧ (∀ k, k < 2 → r_m (z (5 + k) 5)) ∧ (z 0 1 = 0 → z 0 2 = 0)
def r_wd (r c : Nat) : Prop := (r = 0 ∧ c ≤ 3) ∨ r = 2 ∨ r = 3 ∨ ((r = 5 ∨ r = 6) ∧ (c = 0 ∨ c = 1 ∨ c = 5))
def r_w (z z' : x_S) : Prop := ∀ r c, r_wd r c → z' r c = z r c
theorem r_I.w {z z' : x_S} (h : r_I z) (e : r_w z z') : r_I z' := by
  obtain ⟨h1, h2, h3, h4, h5, h6⟩ := h
  have n0 : ∀ c, c ≤ 3 → z' 0 c = z 0 c := fun c hc => e 0 c (Or.inl ⟨rfl, hc⟩)
  have nk : ∀ k, k < 2 → ∀ c, (c = 0 ∨ c = 1 ∨ c = 5) → z' (5 + k) c = z (5 + k) c := fun k hk c hc => e _ _ (Or.inr (Or.inr (Or.inr ⟨by omega, hc⟩)))
  refine ⟨?_, fun k hk => ?_, ?_, ?_, fun k hk => ?_, ?_⟩
  · unfold r_one
    rw [show z' 5 1 = z 5 1 from nk 0 (by decide) 1 (by decide), show z' 6 1 = z 6 1 from nk 1 (by decide) 1 (by decide)]
    exact h1
  · rw [nk k hk 1 (by decide), nk k hk 0 (by decide)]; exact h2 k hk
  · rw [n0 3 (by decide)]; exact h3
  · obtain ⟨n, hn, a, b⟩ := h4
    refine ⟨n, hn, ?_, fun i hi => ?_⟩
    · rw [e 2 0 (Or.inr (Or.inl rfl))]; exact a
    · rw [e 3 i (Or.inr (Or.inr (Or.inl rfl)))]; exact b i hi
  · rw [nk k hk 5 (by decide)]; exact h5 k hk
  · rw [n0 1 (by decide), n0 2 (by decide)]; exact h6
theorem r_w.tr {a b c : x_S} (h : r_w a b) (g : r_w b c) : r_w a c := fun r k hk => (g r k hk).trans (h r k hk)
theorem r_w.rf (z : x_S) : r_w z z := fun _ _ _ => rfl
theorem r_w_up {z : x_S} {r c : Nat} {v : Int32} (h : ¬ r_wd r c) : r_w z (x_up z r c v) := by
  intro a b hab
  refine x_up_ne (fun q => h ?_)
  rw [← q.1, ← q.2]; exact hab
theorem r_w_put {z : x_S} {k b : Nat} {v : Int32} (hk : k < 2) : r_w z (x_put z k b v) := by
  unfold x_put
  exact (r_w_up (by unfold r_wd; omega)).tr (r_w_up (by unfold r_wd; omega))
theorem r_w_flush {z : x_S} {k : Nat} (hk : k < 2) : r_w z (x_flush z k) := by
  intro a b hab
  unfold r_wd at hab
  exact x_flush_out (by omega) (by omega)
theorem r_w_goAl {z : x_S} {k : Nat} (hk : k < 2) : r_w z (x_goAl z k) := by
  unfold x_goAl
  exact (((r_w_up (by unfold r_wd; omega)).tr (r_w_up (by unfold r_wd; omega))).tr (r_w_up (by unfold r_wd; omega))).tr (r_w_up (by unfold r_wd; omega))
theorem r_w_fl {z : x_S} {k : Nat} (hk : k < 2) : r_w z (x_fl z k) := by
  have e : x_fl z k = if x_flush z k 0 1 = 0 then x_flush z k else x_flush (x_flush z k) (1 - k) := rfl
  rw [e]
  split
  · exact r_w_flush hk
  · exact (r_w_flush hk).tr (r_w_flush (by omega))
theorem r_w_cpL {s : Nat} (hs : s < 2) : ∀ (n i : Nat) (z : x_S), r_w z (x_cpL s n i z) := by
  intro n
  induction n with
  | zero => intro i z; exact r_w.rf z
  | succ n ih => intro i z; exact (r_w_put (by omega)).tr (ih (i + 1) _)
/-- the marks -/
theorem r_I.um {z : x_S} {k : Nat} {v : Int32} (hk : k < 2) (hv : r_m v) (h : r_I z) : r_I (x_up z (5 + k) 5 v) := by
  obtain ⟨h1, h2, h3, h4, h5, h6⟩ := h
  refine ⟨?_, fun j hj => ?_, ?_, ?_, fun j hj => ?_, ?_⟩
  · unfold r_one; rw [x_up_ne (by omega), x_up_ne (by omega)]; exact h1
  · rw [x_up_ne (by omega), x_up_ne (by omega)]; exact h2 j hj
  · rw [x_up_ne (by omega)]; exact h3
  · rw [x_up_row (show 2 ≠ 5 + k by omega), x_up_row (show 3 ≠ 5 + k by omega)]; exact h4
  · rw [x_up_at]
    split
    · exact hv
    · exact h5 j hj
  · rw [x_up_ne (by omega), x_up_ne (by omega)]; exact h6
theorem r_I.wr {z : x_S} {k b : Nat} {v : Int32} (hk : k < 2) (hb : b < 32) (h : r_I z) : r_I (x_wr z k b v) := by
  have g : r_I (x_put z k b v) := h.w (r_w_put hk)
  have e : x_wr z k b v = if x_put z k b v 0 1 = 0 then x_up (x_put z k b v) (5 + k) 5 (x_put z k b v (5 + k) 5 ||| k_ext b) else x_put (x_put z k b v) (1 - k) b v := rfl
  rw [e]
  split
  · exact g.um hk ((g.2.2.2.2.1 k hk).or (r_m_ext hb))
  · exact g.w (r_w_put (by omega))
theorem r_I.step {z : x_S} {k n t : Nat} (hk : k < 2) (hn : n ≤ 3) (ht : t < 3 * n + 7) (hc : ∀ i, i < n → ∃ b, b < 24 ∧ z 3 i = nI b) (h : r_I z) : r_I (x_step z k n t) := by
  have f := h.w (r_w_fl hk)
  unfold x_step
  by_cases q0 : t = 0
  · rw [if_pos q0]; exact f
  rw [if_neg q0]
  by_cases q2 : t = 2
  · rw [if_pos q2]; exact f
  rw [if_neg q2]
  by_cases q3 : t = 3 + 2 * n
  · rw [if_pos q3]; exact f
  rw [if_neg q3]
  by_cases q4 : t = 3 + 2 * n + 2
  · rw [if_pos q4]; exact f
  rw [if_neg q4]
  by_cases q1 : t = 1
  · rw [if_pos q1]; exact h.wr hk (by decide)
  rw [if_neg q1]
  by_cases q6 : 3 + 2 * n ≤ t
  · rw [if_pos q6]
    by_cases q5 : t = 3 + 2 * n + 1
    · rw [if_pos q5]; exact h.wr hk (by decide)
    rw [if_neg q5]
    by_cases q7 : 3 + 2 * n + 3 + n ≤ t
    · rw [if_pos q7]; exact h
    · rw [if_neg q7]
      obtain ⟨b, hb, eb⟩ := hc (t - (3 + 2 * n + 3)) (by omega)
      rw [eb, nI_clamp (by omega)]
      exact h.wr hk (by omega)
  · rw [if_neg q6]
    split
    · exact h.wr hk (by omega)
    · exact h.wr hk (by omega)
theorem r_I.comL {k n : Nat} (hk : k < 2) (hn : n ≤ 3) : ∀ (m t : Nat) (z : x_S), t + m ≤ 3 * n + 7 → (∀ i, i < n → ∃ b, b < 24 ∧ z 3 i = nI b) → r_I z → r_I (x_comL k n m t z) := by
  intro m
  induction m with
  | zero => intro t z _ _ h; exact h
  | succ m ih =>
    intro t z ht hc h
    exact ih (t + 1) _ (by omega) (by rw [x_step_low (by decide)]; exact hc) (h.step hk hn (by omega) hc)
theorem r_I.size0 {z : x_S} (h : r_I z) : r_I (x_up z 2 0 0) := by
  obtain ⟨h1, h2, h3, h4, h5, h6⟩ := h
  refine ⟨?_, fun j hj => ?_, ?_, ⟨0, by decide, x_up_eq z 2 0 0, fun i hi => absurd hi (Nat.not_lt_zero i)⟩, fun j hj => ?_, ?_⟩
  · unfold r_one; rw [x_up_ne (by omega), x_up_ne (by omega)]; exact h1
  · rw [x_up_ne (by omega), x_up_ne (by omega)]; exact h2 j hj
  · rw [x_up_ne (by omega)]; exact h3
  · rw [x_up_ne (by omega)]; exact h5 j hj
  · rw [x_up_ne (by omega), x_up_ne (by omega)]; exact h6
theorem r_I.sec {z : x_S} {k : Nat} (hk : k < 2) (h : r_I z) : r_I (x_sec z k) := by
  unfold x_sec
  by_cases q : z (5 + k) 1 = 0
  · rw [if_pos q]; exact h
  rw [if_neg q]
  refine r_I.size0 ?_
  obtain ⟨h1, h2, h3, h4, h5, h6⟩ := h
  refine ⟨?_, fun j hj => ?_, ?_, ?_, fun j hj => ?_, ?_⟩
  · unfold r_one
    match k, hk with
    | 0, _ => exact Or.inl (x_up_eq z 5 1 0)
    | 1, _ => exact Or.inr (x_up_eq z 6 1 0)
  · rw [x_up_ne (show ¬ (5 + j = 5 + k ∧ 0 = 1) by omega), x_up_at]
    split
    · intro r; exact absurd rfl r
    · exact h2 j hj
  · rw [x_up_ne (by omega)]; exact h3
  · rw [x_up_row (show 2 ≠ 5 + k by omega), x_up_row (show 3 ≠ 5 + k by omega)]; exact h4
  · rw [x_up_ne (by omega)]; exact h5 j hj
  · rw [x_up_ne (by omega), x_up_ne (by omega)]; exact h6
theorem r_I.disc {z : x_S} (h : r_I z) : r_I (x_disc z) := by
  unfold x_disc
  obtain ⟨h1, h2, h3, h4, h5, h6⟩ := h
  refine ⟨?_, fun j hj => ?_, ?_, ?_, fun j hj => ?_, fun _ => x_up_eq _ 0 2 0⟩
  · unfold r_one; rw [x_up_ne (by omega), x_up_ne (by omega), x_up_ne (by omega), x_up_ne (by omega)]; exact h1
  · rw [x_up_ne (by omega), x_up_ne (by omega), x_up_ne (by omega), x_up_ne (by omega)]; exact h2 j hj
  · rw [x_up_ne (by omega), x_up_ne (by omega)]; exact h3
  · rw [x_up_row (show 2 ≠ 0 by omega), x_up_row (show 3 ≠ 0 by omega), x_up_row (show 2 ≠ 0 by omega), x_up_row (show 3 ≠ 0 by omega)]; exact h4
  · rw [x_up_ne (by omega), x_up_ne (by omega)]; exact h5 j hj
/-- a node goes down: its flag is cleared with it -/
theorem r_I.down {z : x_S} {k : Nat} (hk : k < 2) (h : r_I z) : r_I (x_sec (x_up z (5 + k) 0 0) k) := by
  have e1 : x_up z (5 + k) 0 0 (5 + k) 1 = z (5 + k) 1 := x_up_ne (by omega)
  have g := h.sec hk
  have hz : x_sec z k (5 + k) 1 = 0 := by
    unfold x_sec
    by_cases q : z (5 + k) 1 = 0
    · rw [if_pos q]; exact q
    · rw [if_neg q, x_up_ne (by omega), x_up_eq]
  have ee : ∀ r c, ¬ (r = 5 + k ∧ c = 0) → x_sec (x_up z (5 + k) 0 0) k r c = x_sec z k r c := by
    intro r c hrc
    unfold x_sec
    rw [e1]
    by_cases q : z (5 + k) 1 = 0
    · rw [if_pos q, if_pos q]; exact x_up_ne hrc
    · rw [if_neg q, if_neg q]
      simp only [x_up_at]
      rw [if_neg hrc]
  obtain ⟨h1, h2, h3, h4, h5, h6⟩ := g
  refine ⟨?_, fun j hj => ?_, ?_, ?_, fun j hj => ?_, ?_⟩
  · unfold r_one; rw [ee 5 1 (by omega), ee 6 1 (by omega)]; exact h1
  · rw [ee (5 + j) 1 (by omega)]
    by_cases q : j = k
    · subst q; intro r; exact absurd hz r
    · rw [ee (5 + j) 0 (by omega)]; exact h2 j hj
  · rw [ee 0 3 (by omega)]; exact h3
  · obtain ⟨n, hn, a, b⟩ := h4
    exact ⟨n, hn, by rw [ee 2 0 (by omega)]; exact a, fun i hi => by rw [ee 3 i (by omega)]; exact b i hi⟩
  · rw [ee (5 + j) 5 (by omega)]; exact h5 j hj
  · rw [ee 0 1 (by omega), ee 0 2 (by omega)]; exact h6
theorem r_I.bring {z : x_S} {k : Nat} {keep : Int32} (hk : k < 2) (h : r_I z) : r_I (x_bring z k keep) := by
  rw [x_bring_eq z hk]
  have hm : r_m (x_cext z k) := r_m_cexL _ 8 0 0 (by decide) r_m_0
  have g1 := h.um hk ((h.2.2.2.2.1 k hk).or hm)
  have g2 : r_I (x_br2 z k) := by
    unfold x_br2
    split
    · exact g1
    · exact g1.um (k := 1 - k) (by omega) ((h.2.2.2.2.1 (1 - k) (by omega)).or hm)
  have g3 : r_I (x_settle (x_br2 z k) k keep) := g2.w (fun r c hrc => by
    unfold r_wd at hrc
    rw [x_settle_at, if_neg (show ¬ (r = 7 + k ∧ c < 32) by omega), if_neg (show ¬ (r = 5 + k ∧ c = 7) by omega)])
  exact (g3.down hk).disc
theorem r_I.up1 {z : x_S} {k : Nat} (hk : k < 2) (h : r_I z) : r_I (x_up z (5 + k) 0 1) := by
  obtain ⟨h1, h2, h3, h4, h5, h6⟩ := h
  refine ⟨?_, fun j hj => ?_, ?_, ?_, fun j hj => ?_, ?_⟩
  · unfold r_one; rw [x_up_ne (by omega), x_up_ne (by omega)]; exact h1
  · rw [x_up_ne (show ¬ (5 + j = 5 + k ∧ 1 = 0) by omega), x_up_at]
    split
    · intro _; rfl
    · exact h2 j hj
  · rw [x_up_ne (by omega)]; exact h3
  · rw [x_up_row (show 2 ≠ 5 + k by omega), x_up_row (show 3 ≠ 5 + k by omega)]; exact h4
  · rw [x_up_ne (by omega)]; exact h5 j hj
  · rw [x_up_ne (by omega), x_up_ne (by omega)]; exact h6
theorem r_I.renew {z : x_S} {k : Nat} (hk : k < 2) (h : r_I z) : r_I (x_renew z k) := by
  unfold x_renew
  have g : r_I (x_erase z k) := h.w (fun r c hrc => by
    unfold r_wd at hrc
    rw [x_erase_at, if_neg (show ¬ (r = 5 + k ∧ c = 7) by omega), if_neg (show ¬ (r = 7 + k ∧ c < 32) by omega)])
  exact (g.w (((r_w_up (by unfold r_wd; omega)).tr (r_w_up (by unfold r_wd; omega))).tr (r_w_up (by unfold r_wd; omega)))).um hk r_m_0
theorem r_I.c0 {z : x_S} {c : Nat} {v : Int32} (hc : c ≤ 3) (h3 : c = 3 → ∃ s, s < 2 ∧ v = nI s) (h6 : x_up z 0 c v 0 1 = 0 → x_up z 0 c v 0 2 = 0) (h : r_I z) : r_I (x_up z 0 c v) := by
  obtain ⟨g1, g2, g3, g4, g5, g6⟩ := h
  refine ⟨?_, fun j hj => ?_, ?_, ?_, fun j hj => ?_, h6⟩
  · unfold r_one; rw [x_up_ne (by omega), x_up_ne (by omega)]; exact g1
  · rw [x_up_ne (by omega), x_up_ne (by omega)]; exact g2 j hj
  · by_cases q : c = 3
    · subst q; rw [x_up_eq]; exact h3 rfl
    · rw [x_up_ne (by omega)]; exact g3
  · rw [x_up_row (show 2 ≠ 0 by omega), x_up_row (show 3 ≠ 0 by omega)]; exact g4
  · rw [x_up_ne (by omega)]; exact g5 j hj
theorem r_I.fin {z : x_S} {s : Nat} (hs : s < 2) (h : r_I z) : r_I (x_fin z s) := by
  rw [x_fin_eq z hs]
  have g := h.w ((r_w_flush (k := 0) (by decide)).tr (r_w_flush (k := 1) (by decide)))
  have g2 := g.w (r_w_up (r := 5 + (1 - s)) (c := 2) (v := z (5 + s) 2) (by unfold r_wd; omega))
  have g3 := ((g2.w (r_w_up (r := 5) (c := 4) (v := 0) (by unfold r_wd; omega))).um (k := 0) (v := 0) (by decide) r_m_0)
  have g4 := ((g3.w (r_w_up (r := 6) (c := 4) (v := 0) (by unfold r_wd; omega))).um (k := 1) (v := 0) (by decide) r_m_0)
  exact g4.c0 (by decide) (fun q => absurd q (by decide)) (fun _ => x_up_eq _ 0 2 0)
theorem r_I.start {z : x_S} {s : Nat} {d : Int32} (hs : s < 2) (hd : r_m d) (h1 : ¬ z 0 1 = 0) (h : r_I z) : r_I (x_start z s d) := by
  unfold x_start
  have n1 : 1 - s < 2 := by omega
  have g := ((h.um hs hd).um n1 r_m_0).w ((r_w_up (r := 5 + (1 - s)) (c := 2) (v := 0) (by unfold r_wd; omega)).tr (r_w_up (r := 5 + (1 - s)) (c := 4) (v := 0) (by unfold r_wd; omega)))
  refine g.c0 (by decide) (fun q => absurd q (by decide)) (fun q => absurd ?_ h1)
  rw [x_up_ne (by omega), x_up_ne (by omega), x_up_ne (by omega), x_up_ne (by omega), x_up_ne (by omega)] at q
  exact q
theorem r_I.connect {z : x_S} (h : r_I z) : r_I (x_connect z).2 := by
  have main : z 0 1 = 0 → r_I (x_conn3 z).2 := by
    intro q1
    obtain ⟨s, hs, es⟩ := x_chooseE z
    rw [x_conn3_eq, es, x_cl hs, x_diff_up z _ hs]
    have g := h.c0 (c := 3) (v := nI s) (by decide) (fun _ => ⟨s, hs, rfl⟩) (by rw [x_up_ne (by omega), x_up_ne (by omega)]; exact h.2.2.2.2.2)
    have g1 := g.c0 (c := 1) (v := 1) (by decide) (fun q => absurd q (by decide)) (fun q => by rw [x_up_eq] at q; exact absurd q (by decide))
    unfold x_conT
    split
    · exact g1.fin hs
    · exact g1.start hs (x_diff_m hs h.2.2.2.2.1) (by rw [x_up_eq]; decide)
  unfold x_connect
  by_cases q1 : z 0 1 = 0
  · rw [if_pos q1]
    repeat' split
    all_goals first | (with_reducible exact main q1) | exact h
  · rw [if_neg q1]; exact h
theorem r_I.rsL {s : Nat} (hs : s < 2) : ∀ (n : Nat) (z : x_S), r_I z → r_I (x_rsL s n z) := by
  intro n
  induction n with
  | zero => intro z h; exact h
  | succ n ih =>
    intro z h
    rw [x_rsL]
    by_cases q : z (5 + s) 5 = 0
    · rw [if_pos q]; exact h
    · rw [if_neg q]
      refine ih _ ?_
      obtain ⟨m, hm, em⟩ := h.2.2.2.2.1 s hs
      have hm0 : 0 < m := Nat.pos_of_ne_zero (fun r => by rw [r] at em; exact q em)
      unfold x_rsB
      rw [em, x_ntz_low m hm hm0, x_clr m hm hm0]
      exact (h.um hs ⟨_, Nat.lt_of_le_of_lt (Nat.sub_le _ _) hm, rfl⟩).w (r_w_cpL hs _ _ _)
theorem r_I.resync {z : x_S} {a : Int32} (h : r_I z) : r_I (x_resync z a).2 := by
  obtain ⟨s, hs, es⟩ := h.2.2.1
  unfold x_resync x_rsT
  rw [es, x_cl hs]
  have g := r_I.rsL hs a.toNatClampNeg z h
  repeat' split
  all_goals first | (with_reducible exact g.fin hs) | (with_reducible exact g) | exact h
theorem r_I.redoL {k : Nat} (hk : k < 2) : ∀ (n i : Nat) (z : x_S), r_I z → r_I (x_redoL k n i z) := by
  intro n
  induction n with
  | zero => intro i z h; exact h
  | succ n ih =>
    intro i z h
    refine ih (i + 1) _ ?_
    unfold x_redoB
    by_cases q : x_isCell (x_held z k (25 + 2 * i)) = 0
    · rw [if_pos q]; exact h
    · rw [if_neg q]
      obtain ⟨b, hb, eb⟩ := x_cellE q
      rw [eb, nI_clamp (by omega)]
      exact h.wr hk (by omega)
theorem r_I.redo {z : x_S} {k : Nat} (hk : k < 2) (h : r_I z) : r_I (x_redo z k).2 := by
  unfold x_redo
  repeat' split
  all_goals first | (with_reducible exact r_I.redoL hk _ _ _ h) | exact h
theorem r_I.prim {z : x_S} {k : Nat} (hk : k < 2) (hu : z (5 + k) 0 = 1) (hn : z (5 + k) 1 = 0) (h : r_I z) : r_I (x_up (x_sec z (1 - k)) (5 + k) 1 1) := by
  have hk1 : 1 - k < 2 := by omega
  have g := h.sec hk1
  have e0 : x_sec z (1 - k) (5 + k) 0 = 1 := by
    unfold x_sec
    split
    · exact hu
    · rw [x_up_ne (by omega), x_up_ne (by omega)]; exact hu
  have e1 : x_sec z (1 - k) (5 + (1 - k)) 1 = 0 := by
    unfold x_sec
    by_cases q : z (5 + (1 - k)) 1 = 0
    · rw [if_pos q]; exact q
    · rw [if_neg q, x_up_ne (by omega), x_up_eq]
  obtain ⟨h1, h2, h3, h4, h5, h6⟩ := g
  refine ⟨?_, fun j hj => ?_, ?_, ?_, fun j hj => ?_, ?_⟩
  · unfold r_one
    match k, hk with
    | 0, _ => exact Or.inr (by rw [x_up_ne (by omega)]; exact e1)
    | 1, _ => exact Or.inl (by rw [x_up_ne (by omega)]; exact e1)
  · rw [x_up_ne (show ¬ (5 + j = 5 + k ∧ 0 = 1) by omega), x_up_at]
    by_cases q : j = k
    · subst q; intro _; exact e0
    · rw [if_neg (by omega)]; exact h2 j hj
  · rw [x_up_ne (by omega)]; exact h3
  · rw [x_up_row (show 2 ≠ 5 + k by omega), x_up_row (show 3 ≠ 5 + k by omega)]; exact h4
  · rw [x_up_ne (by omega)]; exact h5 j hj
  · rw [x_up_ne (by omega), x_up_ne (by omega)]; exact h6
theorem r_I.prom2 {z : x_S} {k : Nat} {al : Bool} (hk : k < 2) (hu : z (5 + k) 0 = 1) (hn : z (5 + k) 1 = 0) (h : r_I z) : r_I (x_prom2 z k al).2 := by
  have g : r_I (x_lend (x_up (x_sec z (1 - k)) (5 + k) 1 1) (nI k)) := by
    unfold x_lend x_ext
    exact (h.prim hk hu hn).w ((r_w_up (by unfold r_wd; omega)).tr (r_w_up (by unfold r_wd; omega)))
  have a := ((g.w (r_w_goAl hk)).w (r_w_fl hk)).redo hk
  have b := (g.w (r_w_fl hk)).redo hk
  cases al
  · rw [x_prom2_f]
    split
    · exact b
    · exact a
  · rw [x_prom2_t]; exact a
theorem r_I.promote {z : x_S} {a f : Int32} (hup : ∀ k, k < 2 → z (5 + k) 0 = 0 ∨ z (5 + k) 0 = 1) (h : r_I z) : r_I (x_promote z a f).2 := by
  have e : x_promote z a f = if x_isNode a = 0 then (-1, z) else if x_may z a.toNatClampNeg = 0 then (-1, z) else if x_lent z (nI (1 - a.toNatClampNeg)) = 0 then (if z (5 + a.toNatClampNeg) 2 = 0 then (-6, z) else if z (5 + a.toNatClampNeg) 2 = z 1 1 then x_prom2 z a.toNatClampNeg false else if f = 0 then (-5, z) else x_prom2 z a.toNatClampNeg true) else (-4, z) := rfl
  rw [e]
  by_cases q : x_isNode a = 0
  · rw [if_pos q]; exact h
  rw [if_neg q]
  obtain ⟨k, hk, ek⟩ := x_nodeE q
  subst ek
  rw [x_cl hk]
  by_cases q1 : x_may z k = 0
  · rw [if_pos q1]; exact h
  rw [if_neg q1]
  have hu : z (5 + k) 0 = 1 := by
    rcases hup k hk with r | r
    · exfalso; apply q1; unfold x_may; rw [if_pos r]
    · exact r
  have hn : z (5 + k) 1 = 0 := by
    apply Decidable.byContradiction
    intro r
    apply q1
    unfold x_may
    by_cases r0 : z (5 + k) 0 = 0
    · rw [if_pos r0]
    · rw [if_neg r0, if_neg r]
  repeat' split
  all_goals first | (with_reducible exact h.prom2 hk hu hn) | exact h
theorem r_I.commit {z : x_S} {n : Nat} {cut keep : Int32} (hn : n ≤ 3) (hc : ∀ i, i < n → ∃ b, b < 24 ∧ z 3 i = nI b) (h : r_I z) : r_I (x_commit z n cut keep).2 := by
  have e : x_commit z n cut keep = if x_findP z = 2 then (-1, z) else if n = 0 then (-1, z) else if x_unp z (x_findP z).toNatClampNeg = 0 then x_comB z (x_findP z).toNatClampNeg n cut keep else if z (5 + (x_findP z).toNatClampNeg) 6 = 0 then (-3, z) else x_comB (x_goAl z (x_findP z).toNatClampNeg) (x_findP z).toNatClampNeg n cut keep := rfl
  rw [e]
  by_cases q : x_findP z = 2
  · rw [if_pos q]; exact h
  rw [if_neg q]
  obtain ⟨k, hk, ek⟩ := x_findE rfl q
  rw [ek, x_cl hk]
  have body : ∀ z' : x_S, r_I z' → z' 3 = z 3 → r_I (x_comB z' k n cut keep).2 := by
    intro z' h' e3
    unfold x_comB
    by_cases p : cut < 0
    · rw [if_pos p]; exact (r_I.comL hk hn _ _ z' (by omega) (by rw [e3]; exact hc) h').size0
    rw [if_neg p]
    by_cases p1 : nI (3 * n + 7) ≤ cut
    · rw [if_pos p1]; exact (r_I.comL hk hn _ _ z' (by omega) (by rw [e3]; exact hc) h').size0
    rw [if_neg p1]
    obtain ⟨d, hd, ed⟩ : ∃ d : Nat, d < 3 * n + 7 ∧ cut = nI d := by
      rcases pk_ix cut (n := 3 * n + 7) (by omega) with r | r | r
      · exact absurd r p
      · exact absurd r p1
      · exact r
    subst ed
    rw [nI_clamp (by omega)]
    exact (r_I.comL hk hn d 0 z' (by omega) (by rw [e3]; exact hc) h').bring hk
  by_cases q1 : n = 0
  · rw [if_pos q1]; exact h
  rw [if_neg q1]
  split
  · exact body z h rfl
  · split
    · exact h
    · exact body _ (h.w (r_w_goAl hk)) (x_goAl_low (by decide) (by decide))
theorem r_I.stage {z : x_S} {n : Nat} {a v : Int32} (hn : n ≤ 3) (hz : z 2 0 = nI n) (hc : ∀ i, i < n → ∃ b, b < 24 ∧ z 3 i = nI b) (h : r_I z) : r_I (x_stage z n a v).2 := by
  unfold x_stage
  by_cases q : x_isCell a = 0
  · rw [if_pos q]; exact h
  rw [if_neg q]
  by_cases q1 : x_findP z = 2
  · rw [if_pos q1]; exact h
  rw [if_neg q1]
  by_cases q2 : n = 3
  · rw [if_pos q2]; exact h
  rw [if_neg q2]
  have e : x_app z n a v = x_up (x_up (x_up z 3 n a) 4 n v) 2 0 (nI n + 1) := by unfold x_app; rw [if_pos (by omega)]
  show r_I (x_app z n a v)
  rw [e]
  obtain ⟨b, hb, eb⟩ := x_cellE q
  obtain ⟨h1, h2, h3, h4, h5, h6⟩ := h
  refine ⟨?_, fun j hj => ?_, ?_, ⟨n + 1, by omega, by rw [x_up_eq]; exact nI_1 n, fun i hi => ?_⟩, fun j hj => ?_, ?_⟩
  · unfold r_one
    rw [x_up_ne (by omega), x_up_ne (by omega), x_up_ne (by omega), x_up_ne (by omega), x_up_ne (by omega), x_up_ne (by omega)]; exact h1
  · rw [x_up_ne (by omega), x_up_ne (by omega), x_up_ne (by omega), x_up_ne (by omega), x_up_ne (by omega), x_up_ne (by omega)]; exact h2 j hj
  · rw [x_up_ne (by omega), x_up_ne (by omega), x_up_ne (by omega)]; exact h3
  · rw [x_up_ne (by omega), x_up_ne (by omega), x_up_at]
    by_cases r : i = n
    · rw [if_pos ⟨rfl, r⟩]; exact ⟨b, hb, eb⟩
    · rw [if_neg (fun s => r s.2)]; exact hc i (by omega)
  · rw [x_up_ne (by omega), x_up_ne (by omega), x_up_ne (by omega)]; exact h5 j hj
  · rw [x_up_ne (by omega), x_up_ne (by omega), x_up_ne (by omega), x_up_ne (by omega), x_up_ne (by omega), x_up_ne (by omega)]; exact h6
theorem r_I.small {z : x_S} (h : r_I z) : (∀ a keep, r_I (x_crash z a keep).2) ∧ (∀ a, r_I (x_restart z a).2) ∧ (∀ a, r_I (x_swap z a).2) ∧ (∀ u, r_I (x_line z u).2) ∧ (∀ a u, r_I (x_wline z a u).2) ∧ (∀ a, r_I (x_demote z a).2) ∧ r_I (x_rnw z).2 ∧ (∀ b, r_I (x_tick z b).2) := by
  refine ⟨fun a keep => ?_, fun a => ?_, fun a => ?_, fun u => ?_, fun a u => ?_, fun a => ?_, ?_, fun b => ?_⟩
  · unfold x_crash
    by_cases q : x_isNode a = 0
    · rw [if_pos q]; exact h
    obtain ⟨k, hk, ek⟩ := x_nodeE q
    subst ek
    rw [if_neg q, x_cl hk]
    split
    · exact h
    · exact h.bring hk
  · unfold x_restart
    by_cases q : x_isNode a = 0
    · rw [if_pos q]; exact h
    obtain ⟨k, hk, ek⟩ := x_nodeE q
    subst ek
    rw [if_neg q, x_cl hk]
    split
    · exact h.up1 hk
    · exact h
  · unfold x_swap
    by_cases q : x_isNode a = 0
    · rw [if_pos q]; exact h
    obtain ⟨k, hk, ek⟩ := x_nodeE q
    subst ek
    rw [if_neg q, x_cl hk]
    split
    · exact h.renew hk
    · exact h
  · have g := h.c0 (c := 0) (v := u) (by decide) (fun q => absurd q (by decide)) (by rw [x_up_ne (by omega), x_up_ne (by omega)]; exact h.2.2.2.2.2)
    unfold x_line
    split
    · exact g.disc
    · exact g
  · unfold x_wline
    by_cases q : x_isNode a = 0
    · rw [if_pos q]; exact h
    obtain ⟨k, hk, ek⟩ := x_nodeE q
    subst ek
    rw [if_neg q, x_cl hk]
    exact h.w (r_w_up (by unfold r_wd; omega))
  · unfold x_demote
    by_cases q : x_isNode a = 0
    · rw [if_pos q]; exact h
    obtain ⟨k, hk, ek⟩ := x_nodeE q
    subst ek
    rw [if_neg q, x_cl hk]
    repeat' split
    all_goals first | (with_reducible exact (h.sec hk).w (r_w_up (by unfold r_wd; omega))) | (with_reducible exact h.sec hk) | exact h
  · unfold x_rnw
    repeat' split
    all_goals first | (with_reducible exact h) | exact h.w (r_w_up (by unfold r_wd; omega))
  · have e : x_tick z b = if b < 0 then (-1, z) else if b ≤ 100 then (if x_run (x_up z 1 2 (z 1 2 + b)) = 0 then (x_sec (x_sec (x_up (x_up z 1 2 (z 1 2 + b)) 1 3 2) 0) 1 1 2, x_sec (x_sec (x_up (x_up z 1 2 (z 1 2 + b)) 1 3 2) 0) 1) else (x_up z 1 2 (z 1 2 + b) 1 2, x_up z 1 2 (z 1 2 + b))) else (-1, z) := rfl
    rw [e]
    have g : r_I (x_up z 1 2 (z 1 2 + b)) := h.w (r_w_up (by unfold r_wd; omega))
    repeat' split
    all_goals first | (with_reducible exact h) | (with_reducible exact g) | (with_reducible exact ((g.w (r_w_up (by unfold r_wd; omega))).sec (by decide)).sec (by decide))
